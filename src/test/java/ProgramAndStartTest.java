/** Promises 1 (a new object), 2 (program) and 3 (start). */
final class ProgramAndStartTest {
    private static void promise1NewObjectIsNotStarted() {
        VotedTriple x = new VotedTriple();
        Check.same("state(0) of a new object", VotedTriple.NONE, x.state(0));
        for (int what = 1; what <= 6; what++) {
            Check.same("state(" + what + ") of a new object", 0, x.state(what));
        }
        Check.same("module(0, 0) of a new object", VotedTriple.NONE, x.module(0, 0));
        Check.same("register(0, 0) of a new object", VotedTriple.NONE, x.register(0, 0));
        Check.same("code(0, 0) of a new object", VotedTriple.NONE, x.code(0, 0));
        Check.no("input(1) of a new object", x.input(1));
        Check.no("start() of a new object", x.start());
    }

    private static void promise1ObjectsAreOnTheirOwn() {
        VotedTriple x = Make.started(Make.set(0, 7));
        VotedTriple y = new VotedTriple();
        x.step(1);
        Check.same("state(0) of another object", VotedTriple.NONE, y.state(0));
        Check.yes("program(0, 0) of another object", y.program(0, 0));
    }

    private static void promise2Places() {
        VotedTriple x = new VotedTriple();
        Check.no("program(-1)", x.program(-1, 0));
        Check.no("program(1) of an empty program", x.program(1, 0));
        Check.no("program(MIN)", x.program(Integer.MIN_VALUE, 0));
        Check.no("program(MAX)", x.program(Integer.MAX_VALUE, 0));
        for (int i = 0; i < 64; i++) {
            Check.yes("program(" + i + ")", x.program(i, Make.set(0, i)));
        }
        Check.no("program(64)", x.program(64, 0));
        Check.yes("program(63) once more", x.program(63, Make.out(0)));
        Check.yes("program(5) once more", x.program(5, Make.set(0, 777)));
        Check.yes("start()", x.start());
        x.step(6);
        Check.same("instruction 5 is the later one", 777, x.register(0, 0));
        x.step(58);
        Check.same("instruction 63 is the later one", 62, x.output(0));
        Check.same("behind instruction 63 comes 0", 0, x.module(0, 3));
    }

    private static void promise2OnlyBeforeTheFirstStart() {
        VotedTriple x = Make.programmed(Make.go(9));
        Check.no("start() with a GO to nowhere", x.start());
        Check.yes("program(0) behind a start() that was refused", x.program(0, Make.out(1)));
        Check.yes("start()", x.start());
        Check.no("program(0) when started", x.program(0, Make.out(1)));
        Check.no("program(1) when started", x.program(1, Make.out(1)));
        Check.yes("start() anew", x.start());
        Check.no("program(0) when started anew", x.program(0, Make.out(1)));
    }

    private static void promise2Ops() {
        for (int op = 0; op < 256; op++) {
            Check.same("program(0) with op " + op, op <= 10 ? 1 : 0,
                new VotedTriple().program(0, Make.instruction(op, 7, 7, 7)) ? 1 : 0);
        }
    }

    /** For each op which of a, b, c are registers. */
    private static void promise2Registers() {
        String[] registers = {"a", "abc", "abc", "abc", "abc", "ab", "ab", "a", "", "a", "a"};
        for (int op = 0; op <= 10; op++) {
            for (int wrong = 8; wrong < 256; wrong += 247) {
                takes(op, "a", registers[op], Make.instruction(op, wrong, 0, 0));
                takes(op, "b", registers[op], Make.instruction(op, 0, wrong, 0));
                takes(op, "c", registers[op], Make.instruction(op, 0, 0, wrong));
            }
        }
    }

    private static void takes(int op, String part, String registers, int word) {
        Check.same("program(0) with op " + op + " and " + part + " above 7",
            registers.contains(part) ? 0 : 1, new VotedTriple().program(0, word) ? 1 : 0);
    }

    private static void promise3TargetsMustBeThere() {
        Check.no("start() with ZERO to 1 of 1", Make.programmed(Make.zero(0, 1)).start());
        Check.no("start() with GO to 1 of 1", Make.programmed(Make.go(1)).start());
        Check.no("start() with GO to 255", Make.programmed(Make.go(255)).start());
        Check.yes("start() with ZERO to 0 of 1", Make.programmed(Make.zero(0, 0)).start());
        Check.yes("start() with GO to 1 of 2", Make.programmed(Make.go(1), Make.zero(7, 1)).start());
        Check.yes("SET's b is no target", Make.programmed(Make.set(0, 0xFFFF)).start());
        Check.yes("LOAD's b is no target", Make.programmed(Make.load(0, 7, 0)).start());
    }

    private static void isAsNew(VotedTriple x) {
        int[] state = {3, 0, 0, 0, 0, 0, 0};
        for (int what = 0; what < 7; what++) {
            Check.same("state(" + what + ") when started", state[what], x.state(what));
        }
        int[] module = {0, 32, 0, 0, 0, 0};
        for (int m = 0; m < 3; m++) {
            for (int what = 0; what < 6; what++) {
                Check.same("module(" + m + ", " + what + ") when started", module[what], x.module(m, what));
            }
            for (int k = 0; k < 8; k++) {
                Check.same("register(" + m + ", " + k + ") when started", 0, x.register(m, k));
            }
            for (int word = 0; word < 32; word++) {
                Check.same("code(" + m + ", " + word + ") when started", 0, x.code(m, word));
            }
        }
        Check.throwing("output(0) when started", IndexOutOfBoundsException.class, () -> x.output(0));
        Check.throwing("perfect(0) when started", IndexOutOfBoundsException.class, () -> x.perfect(0));
    }

    private static void promise3StartsAnew() {
        VotedTriple x = Make.started(Make.in(0), Make.store(0, 1, 4), Make.out(0));
        isAsNew(x);
        x.allow(true);
        x.input(5);
        x.input(6);
        x.flip(0, 1, 1, 9);
        x.step(3);
        x.flip(1, 0, 0, 2);
        x.step(3);
        x.flip(0, 1, 20, 4);
        Make.spoil(x, 2, 7);
        x.freeze(0, true);
        x.skip(2);
        x.input(9);
        Check.yes("start() anew", x.start());
        isAsNew(x);
        Check.same("step(3)", 3, x.step(3));
        Check.same("nothing is FROZEN or to SKIP", 3, x.state(0));
        Check.same("all were alike", 0, x.state(2));
        Check.same("the word that waited is gone", 0, x.output(0));
        Check.same("so it is for the PERFECT one", 0, x.perfect(0));
    }

    private static void promise3EndsSafety() {
        VotedTriple x = Make.started(Make.out(0));
        x.flip(0, 0, 0, 0);
        x.flip(1, 0, 0, 1);
        Check.same("step(9)", 1, x.step(9));
        Check.same("SAFE", 0, x.state(0));
        Check.yes("start() anew", x.start());
        isAsNew(x);
        Check.same("step(9)", 9, x.step(9));
        Check.same("all 9 went out", 9, x.state(3));
    }

    private static void promise3StartsThePerfectOneAnew() {
        VotedTriple x = Make.started(Make.load(0, 7, 0), Make.out(0), Make.out(1), Make.in(1), Make.out(1),
            Make.store(1, 7, 0), Make.go(6));
        x.input(5);
        x.step(7);
        Check.same("word 0 is 5", 90, x.code(0, 0));
        Check.yes("start() anew", x.start());
        isAsNew(x);
        x.input(6);
        x.step(5);
        Check.same("its words are 0", 0, x.perfect(0));
        Check.same("its registers are 0", 0, x.perfect(1));
        Check.same("it takes the first word", 6, x.perfect(2));
        Check.same("its words are counted anew", 3, x.state(4));
    }

    public static void main(String[] args) {
        promise1NewObjectIsNotStarted();
        promise1ObjectsAreOnTheirOwn();
        promise2Places();
        promise2OnlyBeforeTheFirstStart();
        promise2Ops();
        promise2Registers();
        promise3TargetsMustBeThere();
        promise3StartsAnew();
        promise3EndsSafety();
        promise3StartsThePerfectOneAnew();
        Check.end();
    }
}
