/** Promises 13 (module), 14 (register), 15 (code) and 16 (state). */
final class AnswersTest {
    private static final int[] BELOW = {-1, -2, Integer.MIN_VALUE};

    private static void promise13Module() {
        VotedTriple x = Make.programmed(Make.set(1, 5), Make.out(0), Make.go(1));
        Check.same("module before start()", VotedTriple.NONE, x.module(0, 0));
        x.start();
        x.flip(0, 1, 1, 4);
        x.flip(0, 0, 0, 0);
        x.step(1);
        isModule(x, 0, 0, 32, 0, 1, 1, 0);
        x.step(1);
        isModule(x, 0, 1, 0, 20, 2, 1, 1);
        isModule(x, 1, 0, 32, 0, 2, 0, 0);
        x.step(3);
        isModule(x, 0, 1, 3, 19, 2, 1, 1);
        isModule(x, 2, 0, 32, 0, 1, 0, 0);
    }

    private static void isModule(VotedTriple x, int m, int... due) {
        for (int what = 0; what < 6; what++) {
            Check.same("module(" + m + ", " + what + ")", due[what], x.module(m, what));
        }
    }

    private static void promise13None() {
        VotedTriple x = Make.started(Make.go(0));
        for (int k : BELOW) {
            Check.same("module(" + k + ", 0)", VotedTriple.NONE, x.module(k, 0));
            Check.same("module(0, " + k + ")", VotedTriple.NONE, x.module(0, k));
        }
        Check.same("module(3, 0)", VotedTriple.NONE, x.module(3, 0));
        Check.same("module(0, 6)", VotedTriple.NONE, x.module(0, 6));
        Check.same("module(MAX, MAX)", VotedTriple.NONE, x.module(Integer.MAX_VALUE, Integer.MAX_VALUE));
    }

    private static void promise14Register() {
        VotedTriple x = Make.programmed(Make.set(7, 65535), Make.set(0, 3));
        Check.same("register before start()", VotedTriple.NONE, x.register(0, 0));
        x.start();
        x.step(2);
        Check.same("register(2, 7)", 65535, x.register(2, 7));
        Check.same("register(2, 0)", 3, x.register(2, 0));
        for (int k : BELOW) {
            Check.same("register(" + k + ", 0)", VotedTriple.NONE, x.register(k, 0));
            Check.same("register(0, " + k + ")", VotedTriple.NONE, x.register(0, k));
        }
        Check.same("register(3, 0)", VotedTriple.NONE, x.register(3, 0));
        Check.same("register(0, 8)", VotedTriple.NONE, x.register(0, 8));
    }

    private static void promise15Code() {
        VotedTriple x = Make.programmed(Make.set(0, 1), Make.store(0, 1, 31), Make.set(0, 5), Make.store(0, 1, 0));
        Check.same("code before start()", VotedTriple.NONE, x.code(0, 0));
        x.start();
        x.step(4);
        Check.same("code(0, 31)", 15, x.code(0, 31));
        Check.same("code(2, 0)", 90, x.code(2, 0));
        for (int k : BELOW) {
            Check.same("code(" + k + ", 0)", VotedTriple.NONE, x.code(k, 0));
            Check.same("code(0, " + k + ")", VotedTriple.NONE, x.code(0, k));
        }
        Check.same("code(3, 0)", VotedTriple.NONE, x.code(3, 0));
        Check.same("code(0, 32)", VotedTriple.NONE, x.code(0, 32));
        x.flip(0, 1, 31, 20);
        Check.same("asking puts nothing right", 15 + (1 << 20), x.code(0, 31));
        Check.same("asking puts nothing right", 15 + (1 << 20), x.code(0, 31));
    }

    private static void isState(VotedTriple x, int... due) {
        for (int what = 0; what < 7; what++) {
            Check.same("state(" + what + ")", due[what], x.state(what));
        }
    }

    private static void promise16State() {
        VotedTriple x = Make.programmed(Make.in(0), Make.out(0));
        isState(x, VotedTriple.NONE, 0, 0, 0, 0, 0, 0);
        x.start();
        isState(x, 3, 0, 0, 0, 0, 0, 0);
        x.input(1);
        x.input(2);
        x.input(3);
        x.allow(true);
        x.step(1);
        isState(x, 3, 1, 0, 0, 0, 2, 1);
        x.flip(0, 0, 0, 4);
        x.step(1);
        isState(x, 2, 2, 1, 1, 1, 2, 1);
        x.step(1);
        isState(x, 2, 3, 1, 1, 1, 1, 1);
        x.flip(1, 0, 0, 4);
        x.allow(false);
        x.step(1);
        isState(x, 0, 4, 2, 1, 2, 1, 0);
        for (int k : BELOW) {
            Check.same("state(" + k + ")", VotedTriple.NONE, x.state(k));
        }
        Check.same("state(7)", VotedTriple.NONE, x.state(7));
        Check.same("state(MAX)", VotedTriple.NONE, x.state(Integer.MAX_VALUE));
    }

    private static void none() {
        Check.same("NONE", -1, VotedTriple.NONE);
        Check.same("state(-1) of a new object", -1, new VotedTriple().state(-1));
        Check.same("state(7) of a new object", -1, new VotedTriple().state(7));
    }

    public static void main(String[] args) {
        promise13Module();
        promise13None();
        promise14Register();
        promise15Code();
        promise16State();
        none();
        Check.end();
    }
}
