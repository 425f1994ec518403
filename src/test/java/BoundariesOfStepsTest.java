/** The boundary cases of the terms: the instructions, the code of a word, the nine parts of a step, the mode. */
final class BoundariesOfStepsTest {
    /** Module 1 is OUT at step 100, the others are IN STEP; the program is OUT 0, again and again. */
    private static VotedTriple withOneOut() {
        VotedTriple x = Make.started(Make.out(0));
        x.freeze(1, true);
        x.step(100);
        Check.same("module 1 is OUT", 2, x.module(1, 0));
        return x;
    }

    private static VotedTriple afterSteps(int steps) {
        VotedTriple x = Make.started(Make.go(0));
        if (steps > 0) {
            x.step(steps);
        }
        return x;
    }

    private static VotedTriple alone(int... instructions) {
        VotedTriple x = Make.started(instructions);
        x.allow(true);
        x.swap(0);
        x.swap(1);
        Check.same("module 2 is alone", 1, x.state(0));
        return x;
    }

    /** Whatever the last instruction is, the first one is next, in the modules and in the PERFECT one. */
    private static void behindTheLastOneComesTheFirstOne() {
        int[] lasts = {Make.set(5, 1), Make.add(5, 6, 6), Make.sub(5, 6, 6), Make.xor(5, 6, 6), Make.shift(5, 6, 6),
            Make.load(5, 6, 0), Make.store(5, 6, 0), Make.zero(1, 2), Make.in(5), Make.out(5)};
        for (int last : lasts) {
            VotedTriple x = Make.started(Make.out(0), Make.set(1, 1), Make.set(0, 7), last);
            x.step(4);
            int out = x.state(3);
            for (int m = 0; m < 3; m++) {
                Check.same("COUNTER behind " + (last >>> 24), 0, x.module(m, 3));
            }
            x.step(1);
            Check.same("the first one is done", 7, x.output(out));
            Check.same("the PERFECT one does it, too", 7, x.perfect(out));
        }
    }

    private static void behindTheLastOneWhenSkipped() {
        VotedTriple x = Make.started(Make.set(0, 7), Make.go(1));
        x.step(1);
        x.skip(2);
        x.step(1);
        Check.same("behind a skipped last one comes the first one", 0, x.module(2, 3));
        Check.same("the others went to 1", 1, x.module(0, 3));
    }

    private static void programsOfOneAndOf64() {
        VotedTriple one = Make.started(Make.out(3));
        one.step(5);
        Check.same("the only one is done each time", 5, one.state(3));
        Check.same("COUNTER", 0, one.module(1, 3));
        VotedTriple most = new VotedTriple();
        for (int i = 0; i < 63; i++) {
            most.program(i, Make.set(0, i));
        }
        most.program(63, Make.out(0));
        most.start();
        most.step(63);
        Check.same("COUNTER", 63, most.module(2, 3));
        most.step(1);
        Check.same("the 64th is done", 62, most.output(0));
        Check.same("COUNTER", 0, most.module(2, 3));
        most.step(64);
        Check.same("once more round", 2, most.state(3));
    }

    private static void jumpsToTheFirstAndTheLastOne() {
        VotedTriple x = Make.started(Make.zero(0, 3), Make.set(0, 1), Make.zero(0, 0), Make.go(1));
        int[] counters = {3, 1, 2, 3, 1};
        for (int counter : counters) {
            x.step(1);
            Check.same("COUNTER", counter, x.module(0, 3));
        }
        VotedTriple y = Make.started(Make.zero(0, 0));
        y.step(3);
        Check.same("ZERO to itself", 0, y.module(0, 3));
        VotedTriple z = Make.started(Make.set(0, 1), Make.set(1, 0x8000), Make.zero(0, 0), Make.zero(1, 0), Make.go(4));
        z.step(4);
        Check.same("neither 1 nor 32768 is 0", 4, z.module(0, 3));
    }

    private static void wordsHave16Bits() {
        VotedTriple x = Make.started(Make.set(0, 0xFFFF), Make.set(1, 1), Make.add(2, 0, 1), Make.sub(3, 4, 1),
            Make.add(5, 0, 0), Make.xor(6, 0, 0), Make.zero(2, 8), Make.set(7, 9), Make.go(8));
        x.step(8);
        int[] due = {65535, 1, 0, 65535, 0, 65534, 0, 0};
        for (int m = 0; m < 3; m++) {
            for (int k = 0; k < 8; k++) {
                Check.same("register(" + m + ", " + k + ")", due[k], x.register(m, k));
            }
        }
    }

    private static void shiftByEachNumber() {
        for (int by = 0; by < 64; by++) {
            VotedTriple x = Make.started(Make.set(1, 0xFEDC), Make.set(2, by << 8 | by), Make.shift(0, 1, 2), Make.out(0));
            x.step(4);
            Check.same("shifted by " + by, 0xFEDC >>> by % 16, x.output(0));
            Check.same("by the PERFECT one, too", 0xFEDC >>> by % 16, x.perfect(0));
        }
    }

    private static void memoryGoesRound() {
        int[][] places = {{0, 0, 0}, {0, 31, 31}, {0, 32, 0}, {31, 0, 31}, {31, 1, 0}, {0, 255, 31}, {65535, 0, 31},
            {65535, 1, 0}, {65535, 255, 30}, {65504, 0, 0}, {32767, 33, 0}};
        for (int[] place : places) {
            VotedTriple x = Make.started(Make.set(1, place[0]), Make.set(2, 8), Make.store(2, 1, place[1]),
                Make.load(3, 1, place[1]), Make.out(3));
            x.step(5);
            for (int m = 0; m < 3; m++) {
                for (int word = 0; word < 32; word++) {
                    Check.same(place[0] + " + " + place[1] + ": code(" + m + ", " + word + ")",
                        word == place[2] ? 150 : 0, x.code(m, word));
                }
            }
            Check.same("LOAD", 8, x.output(0));
            Check.same("LOAD of the PERFECT one", 8, x.perfect(0));
        }
    }

    private static void oneRegisterIsAAndB() {
        VotedTriple x = Make.started(Make.set(1, 20), Make.store(1, 1, 0), Make.load(1, 1, 0), Make.sub(1, 1, 1), Make.out(1));
        x.step(2);
        Check.same("word 20 becomes 20", PlainModel.codeOf(20), x.code(0, 20));
        x.step(1);
        Check.same("LOAD by the register that it sets", 20, x.register(0, 1));
        x.step(2);
        Check.same("SUB of itself", 0, x.output(0));
    }

    private static void codesOfAllWords() {
        for (int word = 0; word < 65536; word++) {
            VotedTriple x = new VotedTriple();
            x.program(0, Make.set(0, word));
            x.program(1, Make.store(0, 1, 20));
            x.program(2, Make.load(2, 1, 20));
            x.start();
            x.step(3);
            Check.same("the code of " + word, PlainModel.codeOf(word), x.code(2, 20));
            Check.same("is read as", word, x.register(2, 2));
        }
    }

    /** X of three wrong bits is the exclusive or of their numbers. */
    private static void readingThreeWrongBits() {
        for (int i = 0; i < 22; i++) {
            for (int j = i + 1; j < 22; j++) {
                for (int k = j + 1; k < 22; k++) {
                    int wrong = 1 << i | 1 << j | 1 << k;
                    int bit = i ^ j ^ k;
                    int due = bit > 21 ? wrong : wrong ^ 1 << bit;
                    VotedTriple x = Make.started(Make.load(2, 1, 20));
                    x.flip(1, 1, 20, i);
                    x.flip(1, 1, 20, j);
                    x.flip(1, 1, 20, k);
                    x.step(1);
                    Check.same("code with X " + bit, due, x.code(1, 20));
                    Check.same("word with X " + bit, bit > 21 ? 0 : PlainModel.wordOf(due), x.register(1, 2));
                    Check.same("put right with X " + bit, bit > 21 ? 0 : 1, x.module(1, 4));
                    Check.same("NAMED with X " + bit, bit > 21 ? 1 : 0, x.module(1, 5));
                }
            }
        }
    }

    private static void readingIsTheSameInTheScrub() {
        VotedTriple x = Make.started(Make.go(0));
        x.flip(0, 1, 1, 0);
        for (int bit : new int[] {1, 4, 16}) {
            x.flip(1, 1, 1, bit);
        }
        for (int bit : new int[] {2, 4, 16}) {
            x.flip(2, 1, 1, bit);
        }
        x.step(1);
        Check.same("bit 0 is put right", 0, x.code(0, 1));
        Check.same("bit 21 is put right", 2162706, x.code(1, 1));
        Check.same("22 is SPOILT, the code stays", 4 + 16 + 65536, x.code(2, 1));
        int[] right = {1, 1, 0};
        int[] named = {0, 0, 1};
        for (int m = 0; m < 3; m++) {
            Check.same("put right", right[m], x.module(m, 4));
            Check.same("NAMED", named[m], x.module(m, 5));
        }
    }

    private static void part1OnlyThoseInStepDoInstructions() {
        VotedTriple x = withOneOut();
        int counter = x.module(1, 3);
        x.flip(1, 0, 0, 5);
        x.step(7);
        Check.same("COUNTER of one OUT", counter, x.module(1, 3));
        Check.same("it has no say in the vote", 4, x.state(2));
        VotedTriple y = Make.started(Make.add(0, 0, 1), Make.add(2, 2, 1), Make.out(2), Make.go(1));
        y.swap(1);
        y.flip(1, 0, 2, 7);
        y.step(31);
        Check.same("COUNTER of one COPYING", 0, y.module(1, 3));
        Check.same("register of one COPYING", 128, y.register(1, 2));
        Check.same("all IN STEP were alike", 0, y.state(2));
    }

    private static void part1FrozenOneStoresAndJumps() {
        VotedTriple x = Make.started(Make.set(0, 5), Make.store(0, 1, 20), Make.load(2, 1, 20), Make.zero(1, 5),
            Make.set(3, 3), Make.go(5));
        for (int m = 0; m < 3; m++) {
            x.freeze(m, m == 2);
        }
        x.step(4);
        Check.same("STORE", 90, x.code(2, 20));
        Check.same("LOAD", 5, x.register(2, 2));
        Check.same("ZERO", 5, x.module(2, 3));
        Check.same("all alike", 0, x.state(2));
    }

    private static void part2EachBitOfAWordOutCounts() {
        for (int bit = 0; bit < 16; bit++) {
            VotedTriple x = Make.started(Make.set(0, 0xA5A5), Make.out(0), Make.go(2));
            x.step(1);
            x.flip(2, 0, 0, bit);
            x.step(1);
            Check.same("NAMED for bit " + bit, 1, x.module(2, 5));
            Check.same("what the two wish goes out", 0xA5A5, x.output(0));
        }
    }

    /** Instruction 0 is OUT 0, 1 is IN 1, 2 wishes nothing, 3 reads word 20. */
    private static VotedTriple wishing(int first, int second, int third) {
        VotedTriple x = Make.started(Make.out(0), Make.in(1), Make.go(2), Make.load(2, 3, 20));
        int[] counters = {first, second, third};
        for (int m = 0; m < 3; m++) {
            for (int bit = 0; bit < 2; bit++) {
                if ((counters[m] >> bit & 1) == 1) {
                    x.flip(m, 2, 0, bit);
                }
            }
            Check.same("COUNTER", counters[m], x.module(m, 3));
            Make.spoil(x, m, 20);
        }
        x.allow(true);
        x.input(77);
        return x;
    }

    /** Word out, word in, nothing, nothing with a SPOILT code: each is like itself alone. */
    private static void part2EachKindOfWish() {
        for (int two = 0; two < 4; two++) {
            for (int one = 0; one < 4; one++) {
                for (int m = 0; m < 3; m++) {
                    VotedTriple x = wishing(m == 0 ? one : two, m == 1 ? one : two, m == 2 ? one : two);
                    x.step(1);
                    String what = "two wish " + two + ", " + m + " wishes " + one;
                    Check.same(what + ": alike", one == two ? 0 : 1, x.state(2));
                    Check.same(what + ": mode", one == two ? 3 : 2, x.state(0));
                    Check.same(what + ": NAMED", one == two ? 0 : 1, x.module(m, 5));
                    Check.same(what + ": words out", two == 0 ? 1 : 0, x.state(3));
                    Check.same(what + ": words that wait", two == 1 ? 0 : 1, x.state(5));
                    Check.same(what + ": register 1", (one == 1 && two == 1) ? 77 : 0, x.register(m, 1));
                }
            }
        }
    }

    private static void part2ThreeKindsEndSafe() {
        int[][] kinds = {{0, 1, 2}, {0, 1, 3}, {0, 2, 3}, {1, 2, 3}, {3, 2, 1}, {2, 0, 3}, {3, 0, 1}};
        for (int[] kind : kinds) {
            VotedTriple x = wishing(kind[0], kind[1], kind[2]);
            Check.same("step(9)", 1, x.step(9));
            Check.same("mode", 0, x.state(0));
            Check.same("not alike", 1, x.state(2));
            Check.same("nothing went out", 0, x.state(3));
            Check.same("nothing was taken", 1, x.state(5));
            for (int m = 0; m < 3; m++) {
                Check.same("NAMED", 0, x.module(m, 5));
            }
        }
    }

    /** Of a pair, the one that read a SPOILT code is NAMED, whatever the other one wishes; else SAFE. */
    private static void part2EachPair() {
        for (int first = 0; first < 4; first++) {
            for (int second = 0; second < 4; second++) {
                VotedTriple x = wishing(0, first, second);
                x.swap(0);
                x.step(1);
                String what = "wishes " + first + " and " + second;
                boolean alike = first == second;
                boolean oneSpoilt = !alike && (first == 3 || second == 3);
                Check.same(what + ": mode", alike ? 2 : oneSpoilt ? 1 : 0, x.state(0));
                Check.same(what + ": not alike", alike ? 0 : 1, x.state(2));
                Check.same(what + ": first one NAMED", oneSpoilt && first == 3 ? 1 : 0, x.module(1, 5));
                Check.same(what + ": second one NAMED", oneSpoilt && second == 3 ? 1 : 0, x.module(2, 5));
                boolean out = alike ? first == 0 : oneSpoilt && (first == 0 || second == 0);
                boolean in = alike ? first == 1 : oneSpoilt && (first == 1 || second == 1);
                Check.same(what + ": words out", out ? 1 : 0, x.state(3));
                Check.same(what + ": words that wait", in ? 0 : 1, x.state(5));
                Check.same(what + ": its register 1", in && second == 1 ? 77 : 0, x.register(2, 1));
            }
        }
    }

    /** In a pair, to be the sound one does not help if single is not ALLOWED. */
    private static void part2PairWithOneSpoiltNotAllowed() {
        VotedTriple x = wishing(0, 0, 3);
        x.allow(false);
        x.swap(0);
        x.step(1);
        Check.same("what is AGREED is done", 1, x.state(3));
        Check.same("then just one is left: SAFE", 0, x.state(0));
        Check.same("it was NAMED, and blamed", 20, x.module(2, 2));
    }

    private static void part2OneAloneAgreesWithItself() {
        VotedTriple x = alone(Make.load(0, 1, 20), Make.in(2), Make.out(2));
        Make.spoil(x, 2, 20);
        x.input(6);
        Check.same("step(3)", 3, x.step(3));
        Check.same("a SPOILT code read does not matter", 1, x.state(0));
        Check.same("output(0)", 6, x.output(0));
        Check.same("none is NAMED", 0, x.module(2, 5));
        Check.same("all alike", 0, x.state(2));
    }

    private static void part3NotToThoseThatCopyOrAreOut() {
        VotedTriple x = Make.started(Make.in(0), Make.go(0));
        x.swap(2);
        x.input(9);
        x.step(1);
        Check.same("one IN STEP gets it", 9, x.register(0, 0));
        Check.same("one COPYING does not", 0, x.register(2, 0));
        VotedTriple y = withOneOut();
        y.flip(1, 0, 0, 4);
        int before = y.register(1, 0);
        y.input(9);
        y.step(3);
        Check.same("one OUT stays as it is", before, y.register(1, 0));
    }

    private static void part3NoneWaits() {
        VotedTriple x = Make.started(Make.set(0, 9), Make.in(0), Make.go(1));
        x.step(2);
        for (int m = 0; m < 3; m++) {
            Check.same("0 comes in", 0, x.register(m, 0));
        }
        Check.same("words that wait", 0, x.state(5));
        x.input(4);
        x.input(5);
        x.step(2);
        Check.same("none was taken before", 4, x.register(0, 0));
        Check.same("just one is taken", 1, x.state(5));
    }

    /** The word just below the MARK is kept up to date, the one at the MARK is copied later. */
    private static void part4JustBelowTheMark() {
        for (int word = 0; word < 31; word++) {
            VotedTriple x = Make.started(Make.set(0, 5), Make.go(1), Make.store(0, 1, word), Make.go(1));
            x.step(1);
            x.swap(2);
            x.step(word + 1);
            Check.same("MARK", word + 1, x.module(2, 1));
            for (int m = 0; m < 2; m++) {
                x.flip(m, 2, 0, 0);
                x.flip(m, 2, 0, 1);
            }
            x.step(1);
            Check.same("word " + word + " of one IN STEP", 90, x.code(0, word));
            Check.same("word " + word + ", MARK " + (word + 1), 90, x.code(2, word));
        }
    }

    /** The scrub ends the step SAFE before part 8 can copy: what part 4 did is all that is seen. */
    private static void part4AtTheMark() {
        for (int mark = 1; mark < 31; mark++) {
            for (int word = mark - 1; word <= mark + 1; word++) {
                int scrubbed = (mark + 2) % 32;
                VotedTriple x = Make.started(Make.set(0, 5), Make.go(1), Make.store(0, 1, word), Make.go(1));
                x.step(1);
                x.swap(2);
                x.step(mark);
                for (int m = 0; m < 2; m++) {
                    x.flip(m, 2, 0, 0);
                    x.flip(m, 2, 0, 1);
                    Make.spoil(x, m, scrubbed);
                }
                x.step(1);
                Check.same("SAFE", 0, x.state(0));
                Check.same("word " + word + ", MARK " + mark, word < mark ? 90 : 0, x.code(2, word));
            }
        }
    }

    private static void part4OnlyOfTheLowestOne() {
        VotedTriple x = Make.started(Make.go(0), Make.store(0, 1, 2), Make.go(0));
        x.swap(2);
        x.step(5);
        x.flip(1, 2, 0, 0);
        x.flip(1, 0, 0, 0);
        x.step(1);
        Check.same("the higher one stored", 15, x.code(1, 2));
        Check.same("that is not done in the copy", 0, x.code(2, 2));
        VotedTriple y = Make.started(Make.go(0), Make.store(0, 1, 2), Make.go(0));
        y.swap(0);
        y.step(5);
        y.flip(1, 2, 0, 0);
        y.flip(1, 0, 0, 0);
        y.step(1);
        Check.same("the lowest one stored", 15, y.code(1, 2));
        Check.same("that is done in the copy", 15, y.code(0, 2));
        Check.same("and not in one IN STEP", 0, y.code(2, 2));
    }

    private static void part4NotInOneOut() {
        VotedTriple x = Make.started(Make.out(0), Make.zero(1, 0), Make.set(0, 5), Make.store(0, 2, 9), Make.go(4));
        x.freeze(1, true);
        for (int k = 0; k < 40 && x.module(1, 0) != 2; k++) {
            x.step(5);
        }
        Check.same("OUT", 2, x.module(1, 0));
        x.flip(0, 0, 1, 0);
        x.flip(2, 0, 1, 0);
        x.step(6);
        Check.same("stored in one IN STEP", 90, x.code(0, 9));
        Check.same("not in one OUT", 0, x.code(1, 9));
    }

    private static void part5OnlyThoseInStepAreRead() {
        VotedTriple x = Make.started(Make.go(0));
        x.swap(1);
        x.flip(1, 1, 3, 4);
        Make.spoil(x, 1, 2);
        x.step(2);
        Check.same("a SPOILT code of one COPYING", 0, x.module(1, 5));
        x.step(1);
        Check.same("a wrong code of one COPYING", 0, x.module(1, 4));
        VotedTriple y = withOneOut();
        int right = y.module(1, 4);
        int named = y.module(1, 5);
        y.flip(1, 1, 5, 5);
        Make.spoil(y, 1, 6);
        y.step(4);
        Check.same("a wrong code of one OUT", right, y.module(1, 4));
        Check.same("it stays", 32, y.code(1, 5));
        Check.same("a SPOILT code of one OUT", named, y.module(1, 5));
    }

    private static void part5WordOfEachStep() {
        for (int step = 1; step <= 70; step++) {
            VotedTriple x = afterSteps(step - 1);
            for (int word = 0; word < 32; word++) {
                x.flip(0, 1, word, 3);
            }
            x.step(1);
            for (int word = 0; word < 32; word++) {
                Check.same("step " + step + ", word " + word, word == step % 32 ? 0 : 8, x.code(0, word));
            }
        }
    }

    private static void part5AllOfAPair() {
        VotedTriple x = Make.started(Make.out(0));
        x.allow(true);
        x.swap(0);
        Make.spoil(x, 1, 1);
        Make.spoil(x, 2, 1);
        x.step(1);
        Check.same("both of a PAIR: SAFE", 0, x.state(0));
        Check.same("none is blamed", 0, x.module(1, 2));
        Check.same("nothing is copied", 0, x.module(0, 1));
        VotedTriple y = Make.started(Make.out(0));
        y.allow(true);
        y.swap(0);
        Make.spoil(y, 1, 1);
        y.step(1);
        Check.same("one of a PAIR is NAMED", 1, y.module(1, 5));
        Check.same("the other one is alone", 1, y.state(0));
        Check.same("and is the one to copy from", 1, y.module(0, 1));
    }

    private static void part6OnlyAtSixteen() {
        for (int step = 1; step <= 48; step++) {
            VotedTriple x = afterSteps(step - 1);
            x.flip(0, 0, 4, 4);
            x.step(1);
            Check.same("step " + step, step % 16 == 0 ? 1 : 0, x.module(0, 5));
            Check.same("step " + step, step % 16 == 0 ? 2 : 3, x.state(0));
        }
    }

    /** A bit b of register k is turned to bit (b + k) % 16: there bit 15 - or 0 - of register 0 hides it. */
    private static void part6EachBitTurned() {
        for (int k = 1; k < 8; k++) {
            for (int bit = 0; bit < 16; bit++) {
                VotedTriple x = Make.started(Make.go(0));
                VotedTriple y = Make.started(Make.go(0));
                x.flip(1, 0, k, bit);
                y.flip(1, 0, k, bit);
                x.flip(1, 0, 0, (bit + k) % 16);
                y.flip(1, 0, 0, (bit + k + 1) % 16);
                x.step(16);
                y.step(16);
                Check.same("register " + k + ", bit " + bit + " is hidden", 0, x.module(1, 5));
                Check.same("register " + k + ", bit " + bit + " is found", 1, y.module(1, 5));
            }
        }
    }

    private static void part6EachOneOfThree() {
        for (int m = 0; m < 3; m++) {
            VotedTriple x = Make.started(Make.go(0));
            x.flip(m, 0, 2, 2);
            x.step(16);
            for (int k = 0; k < 3; k++) {
                Check.same("NAMED", k == m ? 1 : 0, x.module(k, 5));
            }
            VotedTriple pair = Make.started(Make.go(0));
            pair.allow(true);
            pair.swap(m);
            pair.flip((m + 1) % 3, 0, 2, 2);
            Check.same("two that differ", 16, pair.step(20));
            Check.same("SAFE", 0, pair.state(0));
        }
    }

    private static void part6OnlyThoseInStep() {
        VotedTriple x = Make.started(Make.set(0, 5), Make.go(1));
        x.step(1);
        x.swap(1);
        x.flip(1, 0, 3, 3);
        x.step(15);
        Check.same("one COPYING is not compared", 0, x.module(1, 5));
        Check.same("mode", 2, x.state(0));
        VotedTriple y = withOneOut();
        y.flip(1, 0, 3, 3);
        y.step(12);
        Check.same("step 112", 112, y.state(1));
        Check.same("one OUT is not compared", 4, y.module(1, 5));
        Check.same("mode", 2, y.state(0));
    }

    private static void part7OneLeftAllowedOrNot() {
        for (int left = 0; left < 3; left++) {
            for (int allowed = 0; allowed < 2; allowed++) {
                VotedTriple x = Make.started(Make.go(0));
                x.allow(allowed == 1);
                Make.spoil(x, (left + 1) % 3, 1);
                Make.spoil(x, (left + 2) % 3, 1);
                Check.same("step(5)", allowed == 1 ? 5 : 1, x.step(5));
                Check.same("mode", allowed, x.state(0));
                Check.same("the one that is left is not blamed", 0, x.module(left, 2));
            }
        }
    }

    private static void part7TwoLeftNeedNoAllowing() {
        VotedTriple x = Make.started(Make.go(0));
        Make.spoil(x, 0, 1);
        Check.same("step(20)", 20, x.step(20));
        Check.same("mode", 2, x.state(0));
        Check.same("single is not ALLOWED", 0, x.state(6));
    }

    private static void part7OutLeavesOneAlone() {
        VotedTriple x = withOneOut();
        x.allow(true);
        Make.spoil(x, 0, 5);
        x.step(1);
        Check.same("one OUT, one COPYING: SINGLE", 1, x.state(0));
        x.allow(false);
        Check.same("step(5)", 1, x.step(5));
        Check.same("SAFE", 0, x.state(0));
    }

    private static void part8TheLast() {
        VotedTriple x = Make.started(Make.set(0, 5), Make.add(1, 1, 0), Make.go(1));
        x.swap(0);
        x.step(31);
        Check.same("MARK 31: COPYING", 1, x.module(0, 0));
        Check.same("MARK", 31, x.module(0, 1));
        Check.same("mode", 2, x.state(0));
        Check.same("no register yet", 0, x.register(0, 0));
        x.step(1);
        Check.same("MARK 32: IN STEP", 0, x.module(0, 0));
        Check.same("mode", 3, x.state(0));
        for (int k = 0; k < 8; k++) {
            Check.same("register " + k, x.register(1, k), x.register(0, k));
        }
        Check.same("COUNTER", x.module(1, 3), x.module(0, 3));
        x.step(2);
        Check.same("it does the same from then on", x.register(1, 1), x.register(0, 1));
        x.step(200);
        Check.same("and is never NAMED", 3, x.state(0));
    }

    private static void part8ASpoiltCodeIsCopiedToo() {
        VotedTriple x = Make.started(Make.go(0));
        x.swap(0);
        Make.spoil(x, 1, 0);
        x.step(1);
        Check.same("it comes as it is", 40, x.code(0, 0));
        x.step(30);
        Check.same("both of them", 2, x.state(0));
        x.step(1);
        Check.same("the source is found SPOILT at step 32, and it is NAMED", 1, x.module(1, 5));
    }

    private static void part8TheSourceIsOneThatIsLeft() {
        VotedTriple x = Make.started(Make.go(0));
        x.allow(true);
        x.swap(2);
        x.step(4);
        Make.spoil(x, 0, 5);
        x.flip(0, 1, 4, 7);
        x.flip(1, 1, 4, 9);
        x.step(1);
        Check.same("module 0 is NAMED in this step", 1, x.module(0, 5));
        Check.same("the code of module 1 comes", 512, x.code(2, 4));
        Check.same("MARK of the one NAMED", 0, x.module(0, 1));
    }

    private static void part9DownTo0() {
        VotedTriple x = Make.started(Make.out(0));
        x.flip(0, 0, 0, 0);
        x.step(1);
        int blame = 20;
        for (int step = 2; step <= 90; step++) {
            x.step(1);
            blame -= step % 4 == 0 && blame > 0 ? 1 : 0;
            Check.same("BLAME at step " + step, blame, x.module(0, 2));
            Check.same("BLAME of another one", 0, x.module(1, 2));
        }
        Check.same("not below 0", 0, x.module(0, 2));
    }

    private static void part9InTheStepOfTheBlame() {
        VotedTriple x = Make.started(Make.out(0));
        x.step(3);
        x.flip(2, 0, 0, 0);
        x.step(1);
        Check.same("20 at step 4, less by 1", 19, x.module(2, 2));
    }

    private static void perfectOneInTheStepThatEndsSafe() {
        VotedTriple x = Make.started(Make.in(0), Make.out(0));
        x.input(8);
        x.step(1);
        x.flip(0, 0, 0, 0);
        x.flip(1, 0, 0, 1);
        x.step(1);
        Check.same("SAFE", 0, x.state(0));
        Check.same("nothing went out", 0, x.state(3));
        Check.same("the PERFECT one put out 8", 8, x.perfect(0));
        x.input(9);
        x.step(5);
        Check.same("then it does no more", 1, x.state(4));
    }

    /** A word that comes when the PERFECT one has got 0 already is its next one, not the one that it missed. */
    private static void perfectOneTakesWordsForItself() {
        VotedTriple x = Make.started(Make.in(0), Make.out(0));
        x.step(2);
        Check.same("0 if none has come", 0, x.perfect(0));
        x.input(5);
        for (int m = 0; m < 3; m++) {
            x.skip(m);
        }
        x.step(2);
        Check.same("it took 5", 5, x.perfect(1));
        Check.same("the modules skipped their IN", 0, x.output(1));
        Check.same("the word waits for them", 1, x.state(5));
        x.step(2);
        Check.same("they take it now", 5, x.output(2));
        Check.same("for the PERFECT one none has come", 0, x.perfect(2));
    }

    private static void modes() {
        VotedTriple x = Make.started(Make.out(0));
        x.allow(true);
        for (int mode = 3; mode >= 1; mode--) {
            Check.same("mode", mode, x.state(0));
            Check.same("that goes on", 1, x.step(1));
            Check.same("mode", mode, x.state(0));
            x.swap(mode - 1);
        }
        Check.same("the last one is not swapped", 1, x.state(0));
        x.allow(false);
        x.step(1);
        Check.same("SAFE", 0, x.state(0));
        Check.same("though one is IN STEP", 0, x.module(0, 0));
    }

    public static void main(String[] args) {
        behindTheLastOneComesTheFirstOne();
        behindTheLastOneWhenSkipped();
        programsOfOneAndOf64();
        jumpsToTheFirstAndTheLastOne();
        wordsHave16Bits();
        shiftByEachNumber();
        memoryGoesRound();
        oneRegisterIsAAndB();
        codesOfAllWords();
        readingThreeWrongBits();
        readingIsTheSameInTheScrub();
        part1OnlyThoseInStepDoInstructions();
        part1FrozenOneStoresAndJumps();
        part2EachBitOfAWordOutCounts();
        part2EachKindOfWish();
        part2ThreeKindsEndSafe();
        part2EachPair();
        part2PairWithOneSpoiltNotAllowed();
        part2OneAloneAgreesWithItself();
        part3NotToThoseThatCopyOrAreOut();
        part3NoneWaits();
        part4JustBelowTheMark();
        part4AtTheMark();
        part4OnlyOfTheLowestOne();
        part4NotInOneOut();
        part5OnlyThoseInStepAreRead();
        part5WordOfEachStep();
        part5AllOfAPair();
        part6OnlyAtSixteen();
        part6EachBitTurned();
        part6EachOneOfThree();
        part6OnlyThoseInStep();
        part7OneLeftAllowedOrNot();
        part7TwoLeftNeedNoAllowing();
        part7OutLeavesOneAlone();
        part8TheLast();
        part8ASpoiltCodeIsCopiedToo();
        part8TheSourceIsOneThatIsLeft();
        part9DownTo0();
        part9InTheStepOfTheBlame();
        perfectOneInTheStepThatEndsSafe();
        perfectOneTakesWordsForItself();
        modes();
        Check.end();
    }
}
