/** The boundary cases of promises 1 to 16: the first and the last that is taken, and what is refused. */
final class BoundariesOfCallsTest {
    private static final int MIN = Integer.MIN_VALUE;
    private static final int MAX = Integer.MAX_VALUE;
    private static final int[] NO_MODULES = {-1, 3, MIN, MAX};

    /** All that can be asked for without changing anything, as one text: 147 of an object's 512 calls. */
    private static String allOf(VotedTriple x) {
        StringBuilder text = new StringBuilder();
        for (int what = -1; what <= 7; what++) {
            text.append(x.state(what)).append(' ');
        }
        for (int m = 0; m < 3; m++) {
            for (int what = 0; what < 6; what++) {
                text.append(x.module(m, what)).append(' ');
            }
            for (int k = 0; k < 8; k++) {
                text.append(x.register(m, k)).append(' ');
            }
            for (int word = 0; word < 32; word++) {
                text.append(x.code(m, word)).append(' ');
            }
        }
        return text.toString();
    }

    private static void unchanged(String what, String before, VotedTriple x) {
        Check.yes(what + " changes nothing", before.equals(allOf(x)));
    }

    private static VotedTriple safeOne() {
        VotedTriple x = Make.started(Make.out(0));
        x.flip(0, 0, 0, 0);
        x.flip(1, 0, 0, 1);
        x.step(1);
        Check.same("SAFE", 0, x.state(0));
        return x;
    }

    /** Module 1 is OUT at step 100, the others are IN STEP. */
    private static VotedTriple withOneOut() {
        VotedTriple x = Make.started(Make.out(0));
        x.freeze(1, true);
        x.step(100);
        Check.same("module 1 is OUT", 2, x.module(1, 0));
        return x;
    }

    private static void newObjectHasNothing() {
        VotedTriple x = new VotedTriple();
        for (int i : new int[] {0, -1, 1, 299, 300, MIN, MAX}) {
            Check.throwing("output(" + i + ")", IndexOutOfBoundsException.class, () -> x.output(i));
            Check.throwing("perfect(" + i + ")", IndexOutOfBoundsException.class, () -> x.perfect(i));
        }
        for (int m = -1; m <= 3; m++) {
            for (int k : new int[] {-1, 0, 5, 6, 7, 8, 31, 32}) {
                Check.same("module", VotedTriple.NONE, x.module(m, k));
                Check.same("register", VotedTriple.NONE, x.register(m, k));
                Check.same("code", VotedTriple.NONE, x.code(m, k));
            }
            Check.no("freeze", x.freeze(m, true));
            Check.no("skip", x.skip(m));
            Check.no("swap", x.swap(m));
        }
        for (int n : new int[] {MIN, 0, 1, 2000, 2001, MAX}) {
            Check.throwing("step(" + n + ")", IllegalStateException.class, () -> x.step(n));
        }
        Check.no("input", x.input(0));
        Check.same("words that wait", 0, x.state(5));
    }

    private static void programPlaceBehindTheLastOne() {
        VotedTriple x = new VotedTriple();
        for (int size = 0; size < 64; size++) {
            Check.no("program(" + (size + 1) + ") of " + size, x.program(size + 1, 0));
            Check.yes("program(" + size + ") of " + size, x.program(size, Make.go(63)));
            Check.same("start() of " + (size + 1) + " with GO 63", size == 63 ? 1 : 0, x.start() ? 1 : 0);
        }
        VotedTriple full = new VotedTriple();
        for (int i = 0; i < 64; i++) {
            full.program(i, Make.set(0, i));
        }
        Check.no("program(64) of 64", full.program(64, 0));
        Check.no("program(65) of 64", full.program(65, 0));
        Check.no("program(-1) of 64", full.program(-1, 0));
        Check.yes("program(0) of 64", full.program(0, 0));
        Check.yes("program(63) of 64", full.program(63, 0));
    }

    private static void programThatIsThereDoesNotGrow() {
        VotedTriple x = Make.programmed(Make.set(0, 1), Make.set(0, 2));
        Check.yes("program(0) once more", x.program(0, Make.go(1)));
        Check.yes("program(1) once more", x.program(1, Make.go(2)));
        Check.no("there are two instructions still", x.start());
        Check.yes("program(1) once more", x.program(1, Make.set(3, 4)));
        Check.yes("start()", x.start());
        x.step(2);
        Check.same("the later one is done", 4, x.register(0, 3));
        Check.same("the earlier one is not", 0, x.register(0, 0));
        Check.same("behind the second one comes the first one", 0, x.module(0, 3));
    }

    private static void programRefusedLeavesWhatIsThere() {
        VotedTriple x = Make.programmed(Make.set(0, 7));
        Check.no("OP 11", x.program(0, Make.instruction(11, 0, 0, 0)));
        Check.no("OP 128", x.program(0, Make.instruction(128, 0, 0, 0)));
        Check.no("OP 255", x.program(0, -1));
        Check.no("register 8", x.program(0, Make.out(8)));
        Check.no("OP 11 behind the last one", x.program(1, Make.instruction(11, 0, 0, 0)));
        Check.no("register 8 behind the last one", x.program(1, Make.add(0, 0, 8)));
        x.start();
        Check.no("when started", x.program(0, Make.set(0, 9)));
        Check.no("behind the last one, when started", x.program(1, Make.set(0, 9)));
        x.step(2);
        Check.same("SET 0, 7 is all there is", 7, x.register(0, 0));
        Check.same("and the first one behind itself", 0, x.module(0, 3));
    }

    /** Each of a, b, c that is a register is taken at 7 and refused at 8; each other byte is free. */
    private static void programRegistersUpTo7() {
        String[] registers = {"a", "abc", "abc", "abc", "abc", "ab", "ab", "a", "", "a", "a"};
        for (int op = 0; op <= 10; op++) {
            for (int part = 0; part < 3; part++) {
                boolean isRegister = registers[op].indexOf("abc".charAt(part)) >= 0;
                for (int number = 0; number < 256; number++) {
                    int word = op << 24 | number << 16 - 8 * part;
                    Check.same("op " + op + ", " + "abc".charAt(part) + " is " + number,
                        isRegister && number > 7 ? 0 : 1, new VotedTriple().program(0, word) ? 1 : 0);
                }
            }
        }
    }

    private static void startRefusedLeavesItNotStarted() {
        VotedTriple x = Make.programmed(Make.zero(0, 1));
        x.allow(true);
        Check.no("start()", x.start());
        Check.same("mode", VotedTriple.NONE, x.state(0));
        Check.same("single is ALLOWED still", 1, x.state(6));
        Check.throwing("step(1)", IllegalStateException.class, () -> x.step(1));
        Check.no("input", x.input(1));
        Check.same("module", VotedTriple.NONE, x.module(0, 0));
        Check.yes("program", x.program(1, Make.out(0)));
        Check.yes("start() when instruction 1 is there", x.start());
        Check.same("single is not ALLOWED", 0, x.state(6));
    }

    private static void startLooksAtEveryJump() {
        for (int place = 0; place < 4; place++) {
            for (int target = 0; target < 256; target++) {
                VotedTriple go = new VotedTriple();
                VotedTriple zero = new VotedTriple();
                for (int i = 0; i < 4; i++) {
                    go.program(i, i == place ? Make.go(target) : Make.set(0, 0xFFFF));
                    zero.program(i, i == place ? Make.zero(7, target) : Make.load(0, 7, 255));
                }
                Check.same("GO " + target + " of 4", target < 4 ? 1 : 0, go.start() ? 1 : 0);
                Check.same("ZERO to " + target + " of 4", target < 4 ? 1 : 0, zero.start() ? 1 : 0);
            }
        }
    }

    private static void startAnewFromEachState() {
        String fresh = allOf(Make.started(Make.out(0)));
        VotedTriple x = withOneOut();
        Check.yes("start() with one OUT", x.start());
        unchanged("start() with one OUT", fresh, x);
        x.swap(0);
        x.step(5);
        Check.yes("start() with one COPYING", x.start());
        Check.yes("start() at once again", x.start());
        unchanged("start() with one COPYING", fresh, x);
        VotedTriple y = safeOne();
        Check.yes("start() when SAFE", y.start());
        unchanged("start() when SAFE", fresh, y);
        Check.same("it runs", 2000, y.step(2000));
    }

    private static void stepFrom1To2000() {
        VotedTriple x = Make.started(Make.out(0));
        String before = allOf(x);
        for (int n : new int[] {0, -1, -2000, 2001, MIN, MAX}) {
            Check.throwing("step(" + n + ")", IllegalArgumentException.class, () -> x.step(n));
        }
        unchanged("a refused step", before, x);
        for (int n : new int[] {1, 2, 1999, 2000}) {
            int steps = x.state(1);
            Check.same("step(" + n + ")", n, x.step(n));
            Check.same("steps", steps + n, x.state(1));
        }
    }

    private static void stepWhenSafe() {
        VotedTriple x = safeOne();
        String before = allOf(x);
        Check.same("step(1)", 0, x.step(1));
        Check.same("step(2000)", 0, x.step(2000));
        for (int n : new int[] {0, 2001}) {
            Check.throwing("step(" + n + ")", IllegalArgumentException.class, () -> x.step(n));
        }
        unchanged("step when SAFE", before, x);
    }

    private static void stepThatEndsSafeAsTheLastOne() {
        VotedTriple x = Make.started(Make.set(1, 1), Make.set(2, 2), Make.out(0));
        x.flip(0, 0, 0, 0);
        x.flip(1, 0, 0, 1);
        Check.same("step(3) with SAFE in the third one", 3, x.step(3));
        Check.same("mode", 0, x.state(0));
        Check.same("steps", 3, x.state(1));
    }

    private static void stepManyTimes() {
        VotedTriple x = Make.started(Make.out(0));
        for (int k = 0; k < 500; k++) {
            Check.same("step(2000)", 2000, x.step(2000));
        }
        Check.same("steps", 1000000, x.state(1));
        Check.same("words that went out", 1000000, x.state(3));
        Check.same("words that the PERFECT one put out", 1000000, x.state(4));
        Check.same("output(299)", 0, x.output(299));
    }

    private static void inputTheLowest16Bits() {
        int[] words = {0, 1, 65535, 65536, 65537, -1, -65536, MIN, MAX, 0x12348000};
        int[] due = {0, 1, 65535, 0, 1, 65535, 0, 0, 65535, 0x8000};
        VotedTriple x = Make.started(Make.in(0), Make.out(0));
        for (int word : words) {
            Check.yes("input(" + word + ")", x.input(word));
        }
        x.step(2 * words.length);
        for (int k = 0; k < words.length; k++) {
            Check.same("the lowest 16 bits of " + words[k], due[k], x.output(k));
            Check.same("for the PERFECT one, too", due[k], x.perfect(k));
        }
    }

    private static void inputSixtyFour() {
        VotedTriple x = Make.started(Make.in(0), Make.out(0));
        for (int start = 0; start < 2; start++) {
            for (int k = 0; k < 64; k++) {
                Check.yes("input " + k, x.input(k));
                Check.same("words that wait", k + 1, x.state(5));
            }
            Check.no("the 65th", x.input(7));
            Check.same("it does not wait", 64, x.state(5));
            x.step(2);
            Check.no("the 65th, with 63 that wait", x.input(7));
            x.step(128);
            Check.same("words that wait", 0, x.state(5));
            Check.no("the 65th, with none that waits", x.input(7));
            Check.same("the last one", 63, x.output(63));
            Check.same("behind it 0", 0, x.output(64));
            x.start();
        }
    }

    private static void outputUpTo300() {
        VotedTriple x = Make.started(Make.set(1, 1), Make.add(0, 0, 1), Make.out(0), Make.go(1));
        x.step(3 * 299);
        Check.same("output(298) of 299", 299, x.output(298));
        Check.throwing("output(299) of 299", IndexOutOfBoundsException.class, () -> x.output(299));
        Check.throwing("perfect(299) of 299", IndexOutOfBoundsException.class, () -> x.perfect(299));
        x.step(3);
        Check.same("output(299) of 300", 300, x.output(299));
        Check.same("perfect(299) of 300", 300, x.perfect(299));
        Check.throwing("output(300) of 300", IndexOutOfBoundsException.class, () -> x.output(300));
        Check.throwing("perfect(300) of 300", IndexOutOfBoundsException.class, () -> x.perfect(300));
        x.step(3);
        Check.same("words that went out", 301, x.state(3));
        Check.same("words that the PERFECT one put out", 301, x.state(4));
        Check.throwing("output(300) of 301", IndexOutOfBoundsException.class, () -> x.output(300));
        Check.throwing("perfect(300) of 301", IndexOutOfBoundsException.class, () -> x.perfect(300));
        Check.same("output(299) stays", 300, x.output(299));
        x.start();
        Check.throwing("output(0) of none", IndexOutOfBoundsException.class, () -> x.output(0));
        Check.throwing("perfect(0) of none", IndexOutOfBoundsException.class, () -> x.perfect(0));
    }

    private static void outputAndPerfectAreTwoRows() {
        VotedTriple x = Make.started(Make.out(0), Make.set(0, 3), Make.go(0));
        for (int m = 0; m < 3; m++) {
            x.freeze(m, true);
        }
        x.step(1);
        Check.throwing("output(0) of none", IndexOutOfBoundsException.class, () -> x.output(0));
        Check.same("perfect(0) of one", 0, x.perfect(0));
        for (int m = 0; m < 3; m++) {
            x.freeze(m, false);
        }
        x.step(3);
        Check.same("output(0) of one", 3, x.output(0));
        Check.same("perfect(1) of two", 3, x.perfect(1));
        Check.throwing("output(1) of one", IndexOutOfBoundsException.class, () -> x.output(1));
    }

    private static void wordsStayWhenSafe() {
        VotedTriple x = Make.started(Make.set(0, 5), Make.out(0), Make.go(1));
        x.step(2);
        x.flip(0, 0, 0, 4);
        x.flip(1, 0, 0, 3);
        Check.same("step(9)", 2, x.step(9));
        Check.same("mode", 0, x.state(0));
        Check.same("output(0)", 5, x.output(0));
        Check.throwing("output(1)", IndexOutOfBoundsException.class, () -> x.output(1));
        Check.same("the PERFECT one did the step that ended SAFE", 5, x.perfect(1));
    }

    /** Which bits there are, for every place and index near the edges. */
    private static void flipEveryBitThereIs() {
        for (int place = -1; place <= 3; place++) {
            for (int index = -1; index <= 33; index++) {
                for (int bit = -1; bit <= 33; bit++) {
                    boolean there = place == 0 && isBelow(index, 8) && isBelow(bit, 16)
                        || place == 1 && isBelow(index, 32) && isBelow(bit, 22)
                        || place == 2 && index == 0 && isBelow(bit, 6);
                    flipOfOneBit(place, index, bit, there);
                }
            }
        }
    }

    private static boolean isBelow(int number, int bound) {
        return number >= 0 && number < bound;
    }

    private static void flipOfOneBit(int place, int index, int bit, boolean there) {
        String what = "flip(2, " + place + ", " + index + ", " + bit + ")";
        VotedTriple x = Make.started(Make.set(0, 1), Make.set(0, 2), Make.set(0, 3));
        String before = allOf(x);
        if (there) {
            x.flip(2, place, index, bit);
            Check.no(what + " changes nothing", before.equals(allOf(x)));
        } else {
            Check.throwing(what, IndexOutOfBoundsException.class, () -> x.flip(2, place, index, bit));
            unchanged(what, before, x);
        }
    }

    private static void flipTurnsJustThatBit() {
        for (int index = 0; index < 32; index++) {
            for (int bit = 0; bit < 22; bit++) {
                VotedTriple x = Make.started(Make.go(0));
                String before = allOf(x);
                x.flip(1, 1, index, bit);
                Check.same("code", 1 << bit, x.code(1, index));
                x.flip(1, 1, index, bit);
                if (index < 8 && bit < 16) {
                    x.flip(1, 0, index, bit);
                    Check.same("register", 1 << bit, x.register(1, index));
                    x.flip(1, 0, index, bit);
                }
                unchanged("a bit turned round twice", before, x);
            }
        }
    }

    private static void flipNoSuchModule() {
        VotedTriple x = Make.started(Make.go(0));
        for (int m : NO_MODULES) {
            for (int place = 0; place < 3; place++) {
                int at = place;
                Check.throwing("flip(" + m + ", " + place + ", 0, 0)", IndexOutOfBoundsException.class,
                    () -> x.flip(m, at, 0, 0));
            }
        }
        for (int place : new int[] {MIN, MAX, -1, 3}) {
            Check.throwing("flip(0, " + place + ", 0, 0)", IndexOutOfBoundsException.class, () -> x.flip(0, place, 0, 0));
        }
        for (int edge : new int[] {MIN, MAX, 32, -32}) {
            Check.throwing("flip of bit " + edge, IndexOutOfBoundsException.class, () -> x.flip(0, 0, 0, edge));
            Check.throwing("flip at index " + edge, IndexOutOfBoundsException.class, () -> x.flip(0, 1, edge, 0));
        }
    }

    private static void flipBeforeTheStart() {
        VotedTriple x = Make.programmed(Make.go(0));
        for (int place = 0; place < 3; place++) {
            int at = place;
            Check.throwing("flip before start()", IndexOutOfBoundsException.class, () -> x.flip(0, at, 0, 0));
        }
        x.start();
        Check.same("register", 0, x.register(0, 0));
        Check.same("code", 0, x.code(0, 0));
    }

    private static void flipCounterByTheNumberOfInstructions() {
        for (int size : new int[] {1, 2, 31, 32, 33, 63, 64}) {
            for (int bit = 0; bit < 6; bit++) {
                VotedTriple x = new VotedTriple();
                for (int i = 0; i < size; i++) {
                    x.program(i, Make.set(1, i));
                }
                x.start();
                x.flip(0, 2, 0, bit);
                int due = (1 << bit) % size;
                Check.same("0 turned by " + (1 << bit) + " of " + size, due, x.module(0, 3));
                x.flip(0, 2, 0, bit);
                Check.same("turned once more", (due ^ 1 << bit) % size, x.module(0, 3));
            }
        }
        VotedTriple y = Make.started(Make.set(0, 1), Make.set(0, 2), Make.set(0, 3));
        y.step(2);
        y.flip(0, 2, 0, 2);
        Check.same("2 turned by 4 is 6: rest 0 by 3", 0, y.module(0, 3));
        y.step(1);
        Check.same("so it does the first one", 1, y.register(0, 0));
        Check.same("the others do the last one", 3, y.register(1, 0));
    }

    private static void faultsInEachState() {
        VotedTriple x = withOneOut();
        VotedTriple y = safeOne();
        VotedTriple z = Make.started(Make.out(0));
        z.swap(1);
        for (VotedTriple one : new VotedTriple[] {x, y, z}) {
            for (int m = 0; m < 3; m++) {
                Check.yes("freeze on", one.freeze(m, true));
                Check.yes("freeze off", one.freeze(m, false));
                Check.yes("skip", one.skip(m));
                int before = one.register(m, 5);
                one.flip(m, 0, 5, 9);
                Check.same("flip", before ^ 512, one.register(m, 5));
            }
        }
    }

    private static void freezeAndSkipNoSuchModule() {
        VotedTriple x = Make.started(Make.out(0));
        String before = allOf(x);
        for (int m : NO_MODULES) {
            Check.no("freeze(" + m + ", true)", x.freeze(m, true));
            Check.no("freeze(" + m + ", false)", x.freeze(m, false));
            Check.no("skip(" + m + ")", x.skip(m));
            Check.no("swap(" + m + ")", x.swap(m));
        }
        unchanged("a refused call", before, x);
        x.step(3);
        Check.same("none is FROZEN, to SKIP, or swapped", 3, x.state(0));
        Check.same("all were alike", 0, x.state(2));
    }

    private static void refusedBeforeTheStartHasNoEffectLater() {
        VotedTriple x = Make.programmed(Make.out(0));
        for (int m = 0; m < 3; m++) {
            Check.no("freeze", x.freeze(m, m == 0));
            Check.no("skip", x.skip(m));
            Check.no("swap", x.swap(m));
        }
        Check.no("input", x.input(3));
        x.start();
        x.step(2);
        Check.same("mode", 3, x.state(0));
        Check.same("all were alike", 0, x.state(2));
        Check.same("nothing was skipped", 2, x.state(3));
        Check.same("nothing waits", 0, x.state(5));
    }

    private static void skipTwiceIsSkipOnce() {
        VotedTriple x = Make.started(Make.out(0));
        for (int m = 0; m < 3; m++) {
            x.skip(m);
            x.skip(m);
        }
        x.step(3);
        Check.same("just one was skipped", 2, x.state(3));
        for (int m = 0; m < 3; m++) {
            x.skip(m);
        }
        x.step(1);
        Check.same("told anew, it skips anew", 2, x.state(3));
    }

    private static void skipAndFrozenAtOnce() {
        VotedTriple x = Make.started(Make.set(0, 5), Make.set(0, 6), Make.out(0));
        x.freeze(1, true);
        x.skip(1);
        x.step(1);
        Check.same("it skipped", 0, x.register(1, 0));
        x.step(1);
        Check.same("FROZEN, it does its instruction", 6, x.register(1, 0));
        Check.same("mode", 3, x.state(0));
        x.step(1);
        Check.same("it is FROZEN still", 1, x.module(1, 5));
    }

    private static void swapRefusedChangesNothing() {
        VotedTriple pair = Make.started(Make.out(0));
        pair.swap(0);
        pair.step(7);
        String before = allOf(pair);
        Check.no("swap(1) of a PAIR, single not ALLOWED", pair.swap(1));
        Check.no("swap(2) of a PAIR, single not ALLOWED", pair.swap(2));
        unchanged("a refused swap", before, pair);
        Check.yes("swap(0), the one that is COPYING", pair.swap(0));
        Check.same("its copying starts anew", 0, pair.module(0, 1));
        VotedTriple alone = Make.started(Make.out(0));
        alone.allow(true);
        alone.swap(0);
        alone.swap(2);
        before = allOf(alone);
        Check.no("swap(1), the only one IN STEP", alone.swap(1));
        unchanged("a refused swap", before, alone);
        VotedTriple safe = safeOne();
        safe.allow(true);
        before = allOf(safe);
        for (int m = 0; m < 3; m++) {
            Check.no("swap(" + m + ") when SAFE", safe.swap(m));
        }
        unchanged("a refused swap", before, safe);
    }

    private static void swapOfOneOut() {
        VotedTriple x = withOneOut();
        x.flip(1, 1, 9, 9);
        x.flip(1, 0, 2, 2);
        Check.yes("swap(1) of one OUT", x.swap(1));
        int[] blank = {1, 0, 0, 0, 0, 0};
        for (int what = 0; what < 6; what++) {
            Check.same("module(1, " + what + ")", blank[what], x.module(1, what));
        }
        Check.same("words 0", 0, x.code(1, 9));
        Check.same("registers 0", 0, x.register(1, 2));
        Check.no("swap(0): just one other is IN STEP", x.swap(0));
        x.step(32);
        Check.same("mode", 3, x.state(0));
        x.step(9);
        Check.same("it is not FROZEN any more", 0, x.module(1, 5));
    }

    private static void swapOfOneInStepAtTheEnd() {
        VotedTriple x = Make.started(Make.set(3, 9), Make.store(3, 0, 4), Make.go(2));
        x.step(40);
        for (int m = 0; m < 3; m++) {
            Check.yes("swap(" + m + ") of three", x.swap(m));
            Check.same("the mode at once", 2, x.state(0));
            Check.same("MARK", 0, x.module(m, 1));
            Check.same("COUNTER", 0, x.module(m, 3));
            Check.same("registers 0", 0, x.register(m, 3));
            Check.same("words 0", 0, x.code(m, 4));
            x.step(32);
            Check.same("mode", 3, x.state(0));
            Check.same("COUNTER of the others", 2, x.module(m, 3));
            Check.same("registers of the others", 9, x.register(m, 3));
            Check.same("codes of the others", PlainModel.codeOf(9), x.code(m, 4));
        }
    }

    private static void allowTillStart() {
        VotedTriple x = Make.started(Make.go(0));
        x.allow(true);
        x.step(3);
        Check.same("it lasts", 1, x.state(6));
        x.start();
        Check.same("till start()", 0, x.state(6));
        x.swap(0);
        Check.no("single is not ALLOWED", x.swap(1));
        x.allow(false);
        Check.same("not ALLOWED already", 0, x.state(6));
        Check.same("a PAIR needs no allowing", 40, x.step(40));
        Check.same("mode", 3, x.state(0));
    }

    private static void allowAfterSafeIsTooLate() {
        VotedTriple x = Make.started(Make.go(0));
        Make.spoil(x, 0, 1);
        Make.spoil(x, 1, 1);
        x.step(1);
        Check.same("just one is left, SAFE", 0, x.state(0));
        x.allow(true);
        Check.same("the mode is SAFE until it starts anew", 0, x.state(0));
        Check.same("step(5)", 0, x.step(5));
        Check.same("single is ALLOWED", 1, x.state(6));
    }

    private static void moduleNoneSuch() {
        VotedTriple x = withOneOut();
        for (int m : NO_MODULES) {
            for (int what = -1; what <= 6; what++) {
                Check.same("module(" + m + ", " + what + ")", VotedTriple.NONE, x.module(m, what));
            }
            Check.same("register(" + m + ", 0)", VotedTriple.NONE, x.register(m, 0));
            Check.same("code(" + m + ", 0)", VotedTriple.NONE, x.code(m, 0));
        }
        for (int m = 0; m < 3; m++) {
            for (int none : new int[] {-1, 6, 7, MIN, MAX}) {
                Check.same("module(" + m + ", " + none + ")", VotedTriple.NONE, x.module(m, none));
            }
            for (int none : new int[] {-1, 8, MIN, MAX}) {
                Check.same("register(" + m + ", " + none + ")", VotedTriple.NONE, x.register(m, none));
            }
            for (int none : new int[] {-1, 32, MIN, MAX}) {
                Check.same("code(" + m + ", " + none + ")", VotedTriple.NONE, x.code(m, none));
            }
        }
    }

    private static void moduleMark() {
        VotedTriple x = withOneOut();
        Check.same("of one IN STEP 32", 32, x.module(0, 1));
        Check.same("of one OUT 0", 0, x.module(1, 1));
        x.swap(1);
        for (int k = 0; k < 32; k++) {
            Check.same("of one COPYING", k, x.module(1, 1));
            x.step(1);
        }
        Check.same("IN STEP", 0, x.module(1, 0));
        Check.same("of one IN STEP again 32", 32, x.module(1, 1));
    }

    private static void stateNoneForAnotherWhat() {
        for (VotedTriple x : new VotedTriple[] {new VotedTriple(), Make.started(Make.go(0)), safeOne()}) {
            for (int what : new int[] {-1, 7, 8, MIN, MAX}) {
                Check.same("state(" + what + ")", VotedTriple.NONE, x.state(what));
            }
        }
    }

    private static void stateCountsWhatWaitsAndWentOut() {
        VotedTriple x = Make.started(Make.in(0), Make.out(0));
        x.step(2);
        Check.same("none is taken if none waits", 0, x.state(5));
        x.input(4);
        x.input(5);
        x.step(1);
        Check.same("one waits", 1, x.state(5));
        x.step(2);
        Check.same("none waits", 0, x.state(5));
        Check.same("two went out", 2, x.state(3));
        x.step(5);
        Check.same("none waits still", 0, x.state(5));
        x.input(6);
        Check.same("one waits", 1, x.state(5));
    }

    public static void main(String[] args) {
        newObjectHasNothing();
        programPlaceBehindTheLastOne();
        programThatIsThereDoesNotGrow();
        programRefusedLeavesWhatIsThere();
        programRegistersUpTo7();
        startRefusedLeavesItNotStarted();
        startLooksAtEveryJump();
        startAnewFromEachState();
        stepFrom1To2000();
        stepWhenSafe();
        stepThatEndsSafeAsTheLastOne();
        stepManyTimes();
        inputTheLowest16Bits();
        inputSixtyFour();
        outputUpTo300();
        outputAndPerfectAreTwoRows();
        wordsStayWhenSafe();
        flipEveryBitThereIs();
        flipTurnsJustThatBit();
        flipNoSuchModule();
        flipBeforeTheStart();
        flipCounterByTheNumberOfInstructions();
        faultsInEachState();
        freezeAndSkipNoSuchModule();
        refusedBeforeTheStartHasNoEffectLater();
        skipTwiceIsSkipOnce();
        skipAndFrozenAtOnce();
        swapRefusedChangesNothing();
        swapOfOneOut();
        swapOfOneInStepAtTheEnd();
        allowTillStart();
        allowAfterSafeIsTooLate();
        moduleNoneSuch();
        moduleMark();
        stateNoneForAnotherWhat();
        stateCountsWhatWaitsAndWentOut();
        Check.end();
    }
}
