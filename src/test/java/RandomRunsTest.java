import java.util.LinkedHashMap;
import java.util.Map;
import java.util.Random;

/**
 * Runs of calls drawn from fixed seeds, on the program and on PlainModel: every answer must be the same.
 * A run keeps to the 512 calls that the document promises; the last ones ask for all there is.
 */
final class RandomRunsTest {
    private static final int RUNS = 24000;
    private static final int MOST_CALLS = 512;
    private static final int CALLS_TO_COMPARE_ALL = 3 * (32 + 6 + 8) + 7 + 8;
    private static final int CALLS_OF_A_ROUND = 6 + 2;

    private static final String[] MUST_BE_SEEN = {
        "put right", "named in vote of 3", "named in vote of 2", "named in scrub of 3", "named in scrub of 2",
        "named in digest", "SAFE in vote", "three not alike", "SAFE in scrub", "SAFE in digest of 3",
        "SAFE in digest of 2", "SAFE in blame", "out", "to be copied", "alone", "1 copied", "2 copied",
        "stored in a copy", "a word in that was not its own wish",
    };

    private final Random random;
    private final VotedTriple real = new VotedTriple();
    private final PlainModel model = new PlainModel();
    private final String run;
    private int size;
    private int calls;

    private RandomRunsTest(int seed) {
        random = new Random(seed);
        run = "run " + seed + ": ";
    }

    private interface Asked {
        long answer();
    }

    private static long answerOf(Asked asked) {
        try {
            return asked.answer();
        } catch (IllegalStateException e) {
            return 1L << 40;
        } catch (IllegalArgumentException e) {
            return 2L << 40;
        } catch (IndexOutOfBoundsException e) {
            return 3L << 40;
        }
    }

    private void both(String call, Asked model, Asked real) {
        calls++;
        Check.same(run + call, answerOf(model), answerOf(real));
    }

    private static long number(boolean yes) {
        return yes ? 1 : 0;
    }

    private int drawn(int below) {
        return random.nextInt(below);
    }

    private boolean seldom(int oneIn) {
        return drawn(oneIn) == 0;
    }

    private int drawInstruction() {
        int op = seldom(60) ? drawn(256) : drawn(11);
        int a = seldom(60) ? drawn(256) : drawn(8);
        int b = seldom(60) ? drawn(256) : drawn(8);
        int c = seldom(60) ? drawn(256) : drawn(8);
        if (op == 7 || op == 8) {
            b = seldom(100) ? drawn(256) : drawn(size);
        }
        return Make.instruction(op, a, b, c);
    }

    private void writeProgram() {
        size = seldom(20) ? 64 : 1 + drawn(10);
        for (int i = 0; i < size; i++) {
            int place = seldom(50) ? drawn(70) - 2 : i;
            for (int tries = 0; tries < 3 && mayGoOn(); tries++) {
                int word = drawInstruction();
                both("program(" + place + ", " + word + ")", () -> number(model.program(place, word)),
                    () -> number(real.program(place, word)));
            }
        }
        both("start()", () -> number(model.start()), () -> number(real.start()));
        // A jump to a place that is not there is mended by filling up.
        for (int i = 0; i < 64 && model.state(0) == VotedTriple.NONE && mayGoOn(); i++) {
            int place = i;
            int word = Make.instruction(drawn(2) * 10, drawn(8), 0, 1);
            both("program(" + place + ")", () -> number(model.program(place, word)), () -> number(real.program(place, word)));
            both("start()", () -> number(model.start()), () -> number(real.start()));
        }
    }

    private void flip(int m, int place, int index, int bit) {
        both("flip(" + m + ", " + place + ", " + index + ", " + bit + ")",
            () -> { model.flip(m, place, index, bit); return 0; },
            () -> { real.flip(m, place, index, bit); return 0; });
    }

    private void drawFlips() {
        int m = seldom(50) ? drawn(6) - 2 : drawn(3);
        int word = drawn(seldom(2) ? 34 : 8);
        switch (drawn(6)) {
            case 0: flip(m, 0, drawn(9), drawn(17)); break;
            case 1: flip(m, 2, seldom(20) ? 1 : 0, drawn(7)); break;
            case 2: flip(m, 1, word, drawn(23)); break;
            case 3: flip(m, drawn(5) - 1, drawn(40) - 2, drawn(25) - 2); break;
            case 4:
                for (int k = 0; k < 3; k++) {
                    flip(m, 1, word, drawn(22));
                }
                break;
            default:
                // The same word spoilt in several modules: what is alike, or spoilt in all.
                for (int k = 0; k < 3; k++) {
                    if (!seldom(3)) {
                        flip(k, 1, word, 3);
                        flip(k, 1, word, 6);
                    }
                }
                break;
        }
    }

    private void drawCall() {
        int m = seldom(50) ? drawn(6) - 2 : drawn(3);
        boolean on = random.nextBoolean();
        int word = random.nextInt();
        switch (drawn(16)) {
            case 0: both("input", () -> number(model.input(word)), () -> number(real.input(word))); break;
            case 1: case 2: case 3: drawFlips(); break;
            case 4: both("freeze", () -> number(model.freeze(m, on)), () -> number(real.freeze(m, on))); break;
            case 5: both("skip", () -> number(model.skip(m)), () -> number(real.skip(m))); break;
            case 6: both("swap", () -> number(model.swap(m)), () -> number(real.swap(m))); break;
            case 7:
                boolean single = !seldom(4);
                both("allow", () -> { model.allow(single); return 0; }, () -> { real.allow(single); return 0; });
                break;
            case 8:
                if (seldom(12) || model.state(0) == 0 && seldom(2)) {
                    both("start()", () -> number(model.start()), () -> number(real.start()));
                }
                break;
            default:
                int n = seldom(100) ? drawn(5) * 700 - 700 : 1 + drawn(seldom(3) ? 40 : 4);
                both("step(" + n + ")", () -> model.step(n), () -> real.step(n));
                break;
        }
    }

    private boolean mayGoOn() {
        return calls <= MOST_CALLS - CALLS_TO_COMPARE_ALL - CALLS_OF_A_ROUND;
    }

    private void compareCode(int m, int word) {
        both("code(" + m + ", " + word + ")", () -> model.code(m, word), () -> real.code(m, word));
    }

    private void compareModule(int m, int what) {
        both("module(" + m + ", " + what + ")", () -> model.module(m, what), () -> real.module(m, what));
    }

    private void compareRegister(int m, int k) {
        both("register(" + m + ", " + k + ")", () -> model.register(m, k), () -> real.register(m, k));
    }

    private void compareState(int what) {
        both("state(" + what + ")", () -> model.state(what), () -> real.state(what));
    }

    private void compareOut(int i) {
        both("output(" + i + ")", () -> model.output(i), () -> real.output(i));
        both("perfect(" + i + ")", () -> model.perfect(i), () -> real.perfect(i));
    }

    private void compareAll() {
        for (int m = 0; m < 3; m++) {
            for (int word = 0; word < 32; word++) {
                compareCode(m, word);
            }
            for (int what = 0; what < 6; what++) {
                compareModule(m, what);
            }
            for (int k = 0; k < 8; k++) {
                compareRegister(m, k);
            }
        }
        for (int what = 0; what < 7; what++) {
            compareState(what);
        }
        compareOut(0);
        compareOut(model.state(3) - 1);
        compareOut(model.state(4));
        compareOut(300);
    }

    private void compareOne() {
        int m = drawn(3);
        switch (drawn(10)) {
            case 0: compareOut(drawn(8) - 1); break;
            case 1: case 2: compareState(drawn(9) - 1); break;
            case 3: compareState(0); break;
            case 4: compareCode(drawn(5) - 1, drawn(35) - 1); break;
            case 5: compareCode(m, model.state(1) % 32); break;
            case 6: compareRegister(drawn(5) - 1, drawn(10) - 1); break;
            case 7: compareRegister(m, drawn(8)); break;
            case 8: compareModule(drawn(5) - 1, drawn(8) - 1); break;
            default: compareModule(m, drawn(6)); break;
        }
    }

    private void go() {
        compareOne();
        if (seldom(3)) {
            drawCall();
        }
        writeProgram();
        while (mayGoOn()) {
            drawCall();
            compareOne();
        }
        compareAll();
        if (calls > MOST_CALLS) {
            Check.tellWrong(run + "has " + calls + " calls");
        }
    }

    public static void main(String[] args) {
        Map<String, Integer> seen = new LinkedHashMap<>();
        for (int seed = 0; seed < RUNS; seed++) {
            RandomRunsTest test = new RandomRunsTest(seed);
            test.go();
            test.model.seen.forEach((what, times) -> seen.merge(what, times, Integer::sum));
        }
        System.out.println(seen);
        for (String what : MUST_BE_SEEN) {
            Check.yes("the runs met: " + what, seen.containsKey(what));
        }
        Check.end();
    }
}
