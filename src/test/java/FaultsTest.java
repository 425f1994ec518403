/** Promises 8 (flip), 9 (freeze), 10 (skip), 11 (swap) and 12 (allow). */
final class FaultsTest {
    private static void noSuchBit(VotedTriple x, int m, int place, int index, int bit) {
        Check.throwing("flip(" + m + ", " + place + ", " + index + ", " + bit + ")",
            IndexOutOfBoundsException.class, () -> x.flip(m, place, index, bit));
    }

    private static void promise8Bits() {
        VotedTriple x = Make.programmed(Make.go(0));
        noSuchBit(x, 0, 0, 0, 0);
        x.start();
        for (int m = 0; m < 3; m++) {
            x.flip(m, 0, 7, 15);
            Check.same("register(" + m + ", 7)", 32768, x.register(m, 7));
            x.flip(m, 0, 7, 0);
            Check.same("register(" + m + ", 7)", 32769, x.register(m, 7));
            x.flip(m, 0, 7, 15);
            Check.same("register(" + m + ", 7)", 1, x.register(m, 7));
            x.flip(m, 1, 31, 21);
            Check.same("code(" + m + ", 31)", 1 << 21, x.code(m, 31));
            x.flip(m, 1, 31, 0);
            Check.same("code(" + m + ", 31)", (1 << 21) + 1, x.code(m, 31));
        }
        int[][] wrong = {
            {-1, 0, 0, 0}, {3, 0, 0, 0}, {0, -1, 0, 0}, {0, 3, 0, 0},
            {0, 0, -1, 0}, {0, 0, 8, 0}, {0, 0, 0, -1}, {0, 0, 0, 16},
            {0, 1, -1, 0}, {0, 1, 32, 0}, {0, 1, 0, -1}, {0, 1, 0, 22},
            {0, 2, -1, 0}, {0, 2, 1, 0}, {0, 2, 0, -1}, {0, 2, 0, 6},
            {Integer.MAX_VALUE, 0, 0, 0}, {0, 0, Integer.MIN_VALUE, 0}, {0, 1, 0, Integer.MAX_VALUE},
        };
        for (int[] bit : wrong) {
            noSuchBit(x, bit[0], bit[1], bit[2], bit[3]);
        }
    }

    private static void promise8CounterIsARest() {
        VotedTriple x = Make.started(Make.go(0), Make.go(0), Make.go(0), Make.go(0), Make.go(0));
        x.flip(0, 2, 0, 2);
        Check.same("0 turned by 4", 4, x.module(0, 3));
        x.flip(0, 2, 0, 1);
        Check.same("4 turned by 2 is 6: rest 1 by 5", 1, x.module(0, 3));
        x.flip(0, 2, 0, 5);
        Check.same("1 turned by 32 is 33: rest 3 by 5", 3, x.module(0, 3));
        Check.same("counter of another one", 0, x.module(1, 3));
    }

    private static void promise8AnyModuleAtAnyTime() {
        VotedTriple x = Make.started(Make.out(0));
        x.swap(1);
        x.flip(1, 0, 3, 3);
        Check.same("register of one COPYING", 8, x.register(1, 3));
        x.flip(0, 0, 0, 0);
        x.step(1);
        Check.same("SAFE", 0, x.state(0));
        x.flip(2, 0, 3, 4);
        Check.same("register when SAFE", 16, x.register(2, 3));
    }

    private static void promise9Freeze() {
        VotedTriple x = Make.programmed(Make.set(0, 5), Make.out(0));
        Check.no("freeze before start()", x.freeze(0, true));
        x.start();
        Check.no("freeze(-1)", x.freeze(-1, true));
        Check.no("freeze(3)", x.freeze(3, true));
        Check.yes("freeze(1)", x.freeze(1, true));
        x.step(1);
        Check.same("it does its instruction all the same", 5, x.register(1, 0));
        Check.same("it is as the others are where none wishes anything", 3, x.state(0));
        x.step(1);
        Check.same("it wishes nothing", 1, x.module(1, 5));
        Check.same("its counter went on", 0, x.module(1, 3));
        Check.same("the two others agree", 5, x.output(0));
    }

    private static void promise9FreezeNoMore() {
        VotedTriple x = Make.started(Make.set(0, 5), Make.out(0));
        x.freeze(1, true);
        Check.yes("freeze(1, false)", x.freeze(1, false));
        Check.yes("freeze(1, false) once more", x.freeze(1, false));
        x.step(2);
        Check.same("mode", 3, x.state(0));
        x.freeze(1, true);
        x.step(2 + 32 + 2);
        Check.same("copied, it is FROZEN still", 2, x.module(1, 5));
    }

    private static void promise10Skip() {
        VotedTriple x = Make.programmed(Make.set(0, 5), Make.set(1, 6), Make.go(2));
        Check.no("skip before start()", x.skip(0));
        x.start();
        Check.no("skip(-1)", x.skip(-1));
        Check.no("skip(3)", x.skip(3));
        Check.yes("skip(2)", x.skip(2));
        Check.yes("skip(2) once more", x.skip(2));
        x.step(2);
        Check.same("the skipped SET had no effect", 0, x.register(2, 0));
        Check.same("the counter went on", 2, x.module(2, 3));
        Check.same("it skips just once", 6, x.register(2, 1));
        Check.same("others skip nothing", 5, x.register(1, 0));
    }

    private static void promise10SkippedJumpsStoresAndLoads() {
        VotedTriple x = Make.started(Make.go(0), Make.store(1, 1, 20), Make.load(0, 1, 21));
        x.skip(0);
        x.step(1);
        Check.same("a skipped GO passes on", 1, x.module(0, 3));
        x.flip(0, 0, 1, 0);
        x.skip(0);
        x.step(1);
        Check.same("a skipped STORE stores nothing", 0, x.code(0, 20));
        Make.spoil(x, 0, 21);
        x.skip(0);
        x.step(1);
        Check.same("a skipped LOAD reads nothing", 0, x.state(2));
        Check.same("behind the last one comes the first one", 0, x.module(0, 3));
    }

    private static void promise10SkippedWishes() {
        VotedTriple x = Make.started(Make.set(0, 9), Make.in(0), Make.out(0));
        x.input(4);
        x.step(1);
        x.skip(1);
        x.step(1);
        Check.same("one that skips wishes nothing", 1, x.module(1, 5));
        Check.same("a skipped IN has no effect", 9, x.register(1, 0));
        Check.same("the others get the word", 4, x.register(0, 0));
        VotedTriple y = Make.started(Make.out(0));
        for (int m = 0; m < 3; m++) {
            y.skip(m);
        }
        y.step(2);
        Check.same("all skip: all alike", 0, y.state(2));
        Check.same("just the second one went out", 1, y.state(3));
    }

    private static void promise10SkipWaitsForTheNextInstructionThatItDoes() {
        VotedTriple x = Make.started(Make.out(0));
        x.swap(2);
        x.skip(2);
        x.step(32);
        Check.same("IN STEP again", 3, x.state(0));
        Check.same("it has not skipped yet", 0, x.module(2, 5));
        x.step(1);
        Check.same("now it has", 1, x.module(2, 5));
        x.step(33);
        Check.same("just once", 1, x.module(2, 5));
    }

    private static void promise11Swap() {
        VotedTriple x = Make.programmed(Make.set(0, 5), Make.store(0, 1, 0), Make.out(0));
        Check.no("swap before start()", x.swap(0));
        x.start();
        Check.no("swap(-1)", x.swap(-1));
        Check.no("swap(3)", x.swap(3));
        x.flip(0, 1, 1, 7);
        x.step(2);
        x.freeze(0, true);
        x.step(1);
        x.skip(0);
        Check.same("put right", 1, x.module(0, 4));
        Check.same("named", 1, x.module(0, 5));
        Check.yes("swap(0) of one COPYING", x.swap(0));
        int[] blank = {1, 0, 0, 0, 0, 0};
        for (int what = 0; what < 6; what++) {
            Check.same("module(0, " + what + ") when swapped", blank[what], x.module(0, what));
        }
        for (int k = 0; k < 8; k++) {
            Check.same("register(0, " + k + ") when swapped", 0, x.register(0, k));
        }
        for (int word = 0; word < 32; word++) {
            Check.same("code(0, " + word + ") when swapped", 0, x.code(0, word));
        }
        x.step(1);
        Check.same("the copying starts with the next step", 1, x.module(0, 1));
        x.step(31);
        Check.same("IN STEP", 0, x.module(0, 0));
        x.step(20);
        Check.same("neither FROZEN nor to SKIP", 0, x.module(0, 5));
        Check.same("not alike just once", 1, x.state(2));
    }

    private static void promise11WhoIsLeft() {
        VotedTriple x = Make.started(Make.out(0));
        Check.yes("swap(0)", x.swap(0));
        Check.same("the mode at once", 2, x.state(0));
        Check.yes("swap(0) once more", x.swap(0));
        Check.no("swap(1): just one other is IN STEP", x.swap(1));
        x.allow(true);
        Check.yes("swap(1) when that is ALLOWED", x.swap(1));
        Check.same("the mode at once", 1, x.state(0));
        Check.no("swap(2): no other one is IN STEP", x.swap(2));
        Check.yes("swap(1) of one COPYING", x.swap(1));
        x.allow(false);
        Check.no("swap(1) when that is ALLOWED no more", x.swap(1));
        Check.same("still SINGLE", 1, x.state(0));
    }

    private static void promise11NotWhenSafe() {
        VotedTriple x = Make.started(Make.out(0));
        x.allow(true);
        x.flip(0, 0, 0, 0);
        x.flip(1, 0, 0, 1);
        x.step(1);
        Check.same("SAFE", 0, x.state(0));
        Check.no("swap(0) when SAFE", x.swap(0));
    }

    private static void promise12Allow() {
        VotedTriple x = Make.programmed(Make.go(0));
        x.allow(true);
        Check.same("ALLOWED before start()", 1, x.state(6));
        x.start();
        Check.same("till start()", 0, x.state(6));
        x.allow(true);
        x.allow(true);
        x.swap(0);
        x.swap(1);
        Check.same("step(3) alone", 3, x.step(3));
        x.allow(false);
        Check.same("this counts from the next step on", 1, x.state(0));
        Check.same("the next step ends SAFE", 1, x.step(3));
        Check.same("mode", 0, x.state(0));
        Check.same("nothing was copied in it", 3, x.module(0, 1));
    }

    private static void promise12AllowInTime() {
        VotedTriple x = Make.started(Make.go(0));
        x.allow(true);
        x.swap(0);
        x.swap(1);
        x.step(1);
        x.allow(false);
        x.allow(true);
        Check.same("ALLOWED again before the next step", 9, x.step(9));
        Check.same("mode", 1, x.state(0));
    }

    public static void main(String[] args) {
        promise8Bits();
        promise8CounterIsARest();
        promise8AnyModuleAtAnyTime();
        promise9Freeze();
        promise9FreezeNoMore();
        promise10Skip();
        promise10SkippedJumpsStoresAndLoads();
        promise10SkippedWishes();
        promise10SkipWaitsForTheNextInstructionThatItDoes();
        promise11Swap();
        promise11WhoIsLeft();
        promise11NotWhenSafe();
        promise12Allow();
        promise12AllowInTime();
        Check.end();
    }
}
