/** The nine parts of a step (promise 4 and the terms). */
final class StepPartsTest {
    private static void part2ThirdOneIsNamed() {
        for (int m = 0; m < 3; m++) {
            VotedTriple x = Make.started(Make.out(0));
            x.flip(m, 0, 0, 3);
            x.step(1);
            Check.same("what two want goes out", 0, x.output(0));
            Check.same("mode", 2, x.state(0));
            Check.same("not alike", 1, x.state(2));
            for (int k = 0; k < 3; k++) {
                Check.same("named", k == m ? 1 : 0, x.module(k, 5));
                Check.same("blame", k == m ? 20 : 0, x.module(k, 2));
            }
        }
    }

    private static void part2TwoAreTheMajorityEvenIfWrong() {
        VotedTriple x = Make.started(Make.out(0));
        x.flip(0, 0, 0, 3);
        x.flip(2, 0, 0, 3);
        x.step(1);
        Check.same("output(0)", 8, x.output(0));
        Check.same("perfect(0)", 0, x.perfect(0));
        Check.same("named", 1, x.module(1, 5));
    }

    private static void part2ThreeUnlikeEndSafe() {
        VotedTriple x = Make.started(Make.out(0));
        x.allow(true);
        x.flip(0, 0, 0, 0);
        x.flip(1, 0, 0, 1);
        x.flip(0, 1, 1, 3);
        x.step(1);
        Check.same("mode", 0, x.state(0));
        Check.same("nothing went out", 0, x.state(3));
        Check.same("not alike", 1, x.state(2));
        Check.same("the scrub was not reached", 0, x.module(0, 4));
        for (int m = 0; m < 3; m++) {
            Check.same("none is named", 0, x.module(m, 5));
            Check.same("all are IN STEP still", 0, x.module(m, 0));
        }
    }

    private static void part2SafeLeavesTheWordIn() {
        VotedTriple x = Make.started(Make.set(0, 9), Make.in(0), Make.out(1));
        x.input(4);
        x.swap(2);
        x.step(1);
        x.freeze(1, true);
        x.step(1);
        Check.same("a pair that is not alike ends SAFE", 0, x.state(0));
        Check.same("no word was taken", 1, x.state(5));
        Check.same("none came in", 9, x.register(0, 0));
    }

    private static void part2SpoiltCounts() {
        VotedTriple x = Make.started(Make.load(0, 1, 20), Make.go(0));
        for (int m = 0; m < 3; m++) {
            Make.spoil(x, m, 20);
        }
        x.step(1);
        Check.same("all read a SPOILT code: alike", 0, x.state(2));
        Check.same("mode", 3, x.state(0));
        x.start();
        Make.spoil(x, 0, 20);
        Make.spoil(x, 2, 20);
        x.step(1);
        Check.same("two read a SPOILT code: the third one is named", 1, x.module(1, 5));
        Check.same("mode", 2, x.state(0));
    }

    private static void part2PairWithOneSpoilt() {
        for (int m = 0; m < 2; m++) {
            VotedTriple x = Make.started(Make.load(0, 1, 20), Make.out(2), Make.go(0));
            x.allow(true);
            x.swap(2);
            Make.spoil(x, m, 20);
            x.flip(1 - m, 0, 2, 4);
            x.flip(1 - m, 2, 0, 0);
            x.step(1);
            Check.same("the other one agrees with itself", 16, x.output(0));
            Check.same("mode", 1, x.state(0));
            Check.same("named", 1, x.module(m, 5));
            Check.same("not named", 0, x.module(1 - m, 5));
        }
    }

    private static void part2FrozenOneReadsSpoiltAllTheSame() {
        VotedTriple x = Make.started(Make.load(0, 1, 20), Make.go(0));
        x.freeze(1, true);
        Make.spoil(x, 1, 20);
        x.step(1);
        Check.same("named", 1, x.module(1, 5));
    }

    private static void part2NothingIsAlikeToNothing() {
        VotedTriple x = Make.started(Make.set(0, 9), Make.out(0), Make.set(1, 1), Make.go(2));
        x.step(1);
        x.freeze(2, true);
        x.flip(0, 2, 0, 1);
        x.flip(1, 2, 0, 1);
        x.step(1);
        Check.same("a FROZEN one's OUT is nothing, as GO is", 0, x.state(2));
        Check.same("nothing went out", 0, x.state(3));
        VotedTriple y = Make.started(Make.set(0, 9), Make.out(0), Make.go(2));
        y.step(1);
        y.flip(1, 0, 0, 3);
        y.step(1);
        y.step(40);
        Check.same("a word that it wished long ago is no wish", 1, y.state(2));
        Check.same("mode", 3, y.state(0));
    }

    private static void part3WordInForAllWhoseInstructionIsIn() {
        VotedTriple x = Make.started(Make.in(0), Make.in(3), Make.out(0), Make.go(0));
        x.input(5);
        x.input(6);
        x.freeze(0, true);
        x.step(1);
        Check.same("one that wishes nothing gets it, too", 5, x.register(0, 0));
        Check.same("it is named", 1, x.module(0, 5));
        Check.same("one word was taken", 1, x.state(5));
        x.start();
        x.input(5);
        x.flip(1, 2, 0, 0);
        x.step(1);
        Check.same("to its own register a", 5, x.register(1, 3));
        Check.same("alike in the wish", 0, x.state(2));
    }

    private static void part3ZeroIfNoWordInIsAgreed() {
        VotedTriple x = Make.started(Make.out(0), Make.in(0), Make.go(0));
        x.input(5);
        x.flip(2, 0, 0, 7);
        x.flip(2, 2, 0, 0);
        x.step(1);
        Check.same("the named one's IN gets 0", 0, x.register(2, 0));
        Check.same("no word was taken", 1, x.state(5));
        VotedTriple y = Make.started(Make.set(0, 9), Make.in(0));
        y.input(5);
        for (int m = 0; m < 3; m++) {
            y.freeze(m, true);
        }
        y.step(2);
        Check.same("nothing is agreed: 0 comes in", 0, y.register(1, 0));
        Check.same("no word was taken", 1, y.state(5));
    }

    private static void part4StoresBelowTheMark() {
        for (int m = 0; m < 3; m++) {
            VotedTriple x = Make.started(Make.in(0), Make.store(0, 1, 3));
            x.swap(m);
            x.input(1);
            x.input(5);
            x.input(8);
            x.step(2);
            Check.same("word 3 lies above the MARK", 0, x.code(m, 3));
            x.step(2);
            Check.same("word 3 is copied", 90, x.code(m, 3));
            x.step(2);
            Check.same("word 3 lies below the MARK", 150, x.code(m, 3));
            Check.same("MARK", 6, x.module(m, 1));
            x.flip(m, 1, 3, 9);
            x.step(1);
            Check.same("a step without a STORE leaves word 3 alone", 150 + 512, x.code(m, 3));
        }
    }

    private static void part4NotAtTheMark() {
        VotedTriple x = Make.started(Make.set(0, 5), Make.store(0, 1, 1));
        x.swap(2);
        x.step(1);
        Make.spoil(x, 0, 2);
        Make.spoil(x, 1, 2);
        x.step(1);
        Check.same("SAFE in the scrub", 0, x.state(0));
        Check.same("stored in the others", 90, x.code(0, 1));
        Check.same("word 1 is not below the MARK 1, and was not copied any more", 0, x.code(2, 1));
    }

    private static void part4OfTheLowestThatIsNotNamed() {
        VotedTriple x = Make.started(Make.load(0, 1, 20), Make.store(2, 1, 3), Make.go(0));
        x.allow(true);
        x.swap(2);
        x.step(6);
        Make.spoil(x, 0, 20);
        x.flip(1, 2, 0, 0);
        x.flip(1, 0, 2, 0);
        x.step(1);
        Check.same("module 0 is named", 1, x.module(0, 5));
        Check.same("the STORE of module 1 is done", 15, x.code(2, 3));
        Check.same("not in the one that is named just now", 0, x.code(0, 3));
    }

    private static void part5TurnsThroughAllWords() {
        VotedTriple x = Make.started(Make.go(0));
        for (int word = 0; word < 32; word++) {
            x.flip(1, 1, word, word % 22);
        }
        for (int step = 1; step <= 32; step++) {
            x.step(1);
            Check.same("put right", step, x.module(1, 4));
            Check.same("word " + step % 32 + " is right", 0, x.code(1, step % 32));
        }
        x.flip(2, 1, 1, 0);
        x.step(1);
        Check.same("step 33 goes over word 1", 1, x.module(2, 4));
    }

    private static void part5SpoiltOnesAreNamed() {
        VotedTriple x = Make.started(Make.go(0));
        Make.spoil(x, 1, 2);
        x.step(1);
        Check.same("not found yet", 3, x.state(0));
        x.step(1);
        Check.same("found", 2, x.state(0));
        Check.same("named", 1, x.module(1, 5));
        Check.same("all were alike in the vote", 0, x.state(2));
        x.start();
        x.allow(true);
        Make.spoil(x, 0, 1);
        Make.spoil(x, 2, 1);
        x.step(1);
        Check.same("two of three are named", 1, x.state(0));
        Check.same("blame", 20, x.module(0, 2));
        Check.same("blame", 20, x.module(2, 2));
    }

    private static void part5AllSpoiltEndsSafe() {
        VotedTriple x = Make.started(Make.out(0));
        for (int m = 0; m < 3; m++) {
            Make.spoil(x, m, 1);
        }
        Check.same("step(5)", 1, x.step(5));
        Check.same("mode", 0, x.state(0));
        Check.same("what was agreed is done", 1, x.state(3));
        for (int m = 0; m < 3; m++) {
            Check.same("none is blamed", 0, x.module(m, 2));
            Check.same("none is named", 0, x.module(m, 5));
            Check.same("all are IN STEP still", 0, x.module(m, 0));
        }
        x.start();
        x.allow(true);
        x.swap(0);
        x.swap(1);
        Make.spoil(x, 2, 1);
        x.step(5);
        Check.same("one alone that finds it ends SAFE", 0, x.state(0));
    }

    private static void part5LeavesOutTheNamed() {
        VotedTriple x = Make.started(Make.out(0));
        x.flip(0, 0, 0, 0);
        x.flip(0, 1, 1, 6);
        x.step(1);
        Check.same("the named one is not gone over", 0, x.module(0, 4));
        x.start();
        x.flip(0, 0, 0, 0);
        Make.spoil(x, 1, 1);
        Make.spoil(x, 2, 1);
        x.step(1);
        Check.same("all that are left find it: SAFE", 0, x.state(0));
        Check.same("no blame any more", 0, x.module(0, 2));
        Check.same("but it was named in the vote", 1, x.module(0, 5));
        Check.same("the others were not", 0, x.module(1, 5));
    }

    private static void part6EverySixteenSteps() {
        VotedTriple x = Make.started(Make.go(0));
        x.step(16);
        x.flip(1, 0, 7, 15);
        x.step(15);
        Check.same("not found yet", 3, x.state(0));
        x.step(1);
        Check.same("found at step 32", 1, x.module(1, 5));
        Check.same("mode", 2, x.state(0));
        Check.same("all were alike in the vote", 0, x.state(2));
    }

    private static void hidesAtStep16(String what, int due, int... flips) {
        VotedTriple x = Make.started(Make.go(1), Make.go(0));
        for (int k = 0; k < flips.length; k += 3) {
            x.flip(2, flips[k], flips[k + 1], flips[k + 2]);
        }
        x.step(16);
        Check.same(what, due, x.module(2, 5));
    }

    private static void part6WhatTheDigestIs() {
        hidesAtStep16("a register's bit is found", 1, 0, 4, 9);
        hidesAtStep16("a counter is found", 1, 2, 0, 0);
        hidesAtStep16("register 0's bit 1 and register 1's bit 0", 0, 0, 0, 1, 0, 1, 0);
        hidesAtStep16("register 0's bit 1 and register 1's bit 1", 1, 0, 0, 1, 0, 1, 1);
        hidesAtStep16("register 0's bit 6 and register 7's bit 15 turned left", 0, 0, 0, 6, 0, 7, 15);
        hidesAtStep16("register 3's bit 15 and register 5's bit 13", 0, 0, 3, 15, 0, 5, 13);
        hidesAtStep16("the counter's bit 0 and register 0's bit 0", 0, 2, 0, 0, 0, 0, 0);
        hidesAtStep16("the counter's bit 0 and register 1's bit 15", 0, 2, 0, 0, 0, 1, 15);
    }

    private static void part6UnlikeEndsSafe() {
        VotedTriple x = Make.started(Make.go(0));
        x.allow(true);
        x.flip(0, 0, 3, 1);
        x.flip(1, 0, 3, 2);
        Check.same("three unlike end SAFE", 16, x.step(20));
        Check.same("mode", 0, x.state(0));
        Check.same("none is named", 0, x.module(0, 5));
        x.start();
        x.allow(true);
        x.swap(1);
        x.flip(2, 0, 3, 1);
        Check.same("two unlike end SAFE", 16, x.step(20));
        Check.same("mode", 0, x.state(0));
        Check.same("none is copied in it", 15, x.module(1, 1));
        x.start();
        x.allow(true);
        x.swap(0);
        x.swap(1);
        x.flip(2, 0, 3, 1);
        Check.same("one alone has nothing to compare", 20, x.step(20));
    }

    private static void part6LeavesOutTheNamed() {
        VotedTriple x = Make.started(Make.go(0));
        Make.spoil(x, 0, 16);
        x.flip(0, 0, 3, 1);
        x.step(16);
        Check.same("the two that are left are alike", 2, x.state(0));
        Check.same("named once", 1, x.module(0, 5));
        Check.same("blamed once", 19, x.module(0, 2));
        x.start();
        Make.spoil(x, 0, 16);
        x.flip(1, 0, 3, 1);
        x.step(16);
        Check.same("the two that are left are not alike: SAFE", 0, x.state(0));
        Check.same("no blame any more", 0, x.module(0, 2));
        Check.same("but it was named in the scrub", 1, x.module(0, 5));
        x.start();
        x.allow(true);
        Make.spoil(x, 0, 16);
        Make.spoil(x, 1, 16);
        x.flip(2, 0, 3, 1);
        x.step(16);
        Check.same("just one is left: nothing to compare", 1, x.state(0));
    }

    private static void part7OneLeftThatIsNotAllowed() {
        VotedTriple x = Make.started(Make.go(0));
        Make.spoil(x, 0, 4);
        Make.spoil(x, 2, 4);
        Check.same("step(9)", 4, x.step(9));
        Check.same("mode", 0, x.state(0));
        Check.same("blame grew, and does not get less in a step that ended", 20, x.module(0, 2));
        Check.same("COPYING", 1, x.module(2, 0));
        Check.same("MARK", 0, x.module(2, 1));
    }

    /** A frozen module is named anew each time that it is copied: 20, 12 + 20, 24 + 20, 36 + 20. */
    private static void part7FiftyIsOut() {
        VotedTriple x = Make.started(Make.out(0));
        x.freeze(1, true);
        int[] steps = {1, 33, 33, 33};
        int[] blames = {20, 32, 44, 55};
        for (int k = 0; k < 4; k++) {
            x.step(steps[k]);
            Check.same("STATE", k < 3 ? 1 : 2, x.module(1, 0));
            Check.same("BLAME (step 100 took 1 away)", blames[k], x.module(1, 2));
            Check.same("MARK", 0, x.module(1, 1));
        }
        x.step(40);
        Check.same("OUT it stays", 2, x.module(1, 0));
        Check.same("MARK of one OUT", 0, x.module(1, 1));
        Check.same("its BLAME gets less all the same", 45, x.module(1, 2));
        Check.same("mode", 2, x.state(0));
        Check.yes("swap", x.swap(1));
        x.step(32);
        Check.same("mode", 3, x.state(0));
    }

    private static void part7JustFifty() {
        int[] waits = {53, 57};
        int[] states = {2, 1};
        int[] blames = {50, 49};
        for (int k = 0; k < 2; k++) {
            VotedTriple x = Make.started(Make.out(0));
            x.freeze(1, true);
            x.step(67);
            Check.same("BLAME at step 67", 44, x.module(1, 2));
            x.freeze(1, false);
            x.step(waits[k]);
            Check.same("BLAME before", blames[k] - 20, x.module(1, 2));
            x.freeze(1, true);
            x.step(1);
            Check.same("BLAME", blames[k], x.module(1, 2));
            Check.same("STATE", states[k], x.module(1, 0));
        }
    }

    private static void part8CopiesAsItIs() {
        VotedTriple x = Make.started(Make.set(0, 9), Make.set(5, 8), Make.store(0, 1, 30), Make.go(3));
        x.step(3);
        x.swap(0);
        x.flip(1, 1, 14, 3);
        x.flip(2, 1, 15, 3);
        for (int k = 1; k < 32; k++) {
            x.step(1);
            Check.same("MARK", k, x.module(0, 1));
            Check.same("COPYING", 1, x.module(0, 0));
            Check.same("no registers yet", 0, x.register(0, 0));
        }
        Check.same("a code that was put right before", 0, x.code(0, 14));
        Check.same("from the lowest one IN STEP", 0, x.code(0, 15));
        x.step(1);
        Check.same("IN STEP", 0, x.module(0, 0));
        Check.same("MARK", 32, x.module(0, 1));
        Check.same("register", 9, x.register(0, 0));
        Check.same("register", 8, x.register(0, 5));
        Check.same("counter", 3, x.module(0, 3));
        Check.same("code", x.code(1, 30), x.code(0, 30));
        x.swap(0);
        x.step(4);
        x.flip(1, 1, 4, 6);
        x.step(1);
        Check.same("a wrong code comes as it is", 64, x.code(0, 4));
        Check.same("nothing is put right by that", 0, x.module(0, 4));
    }

    private static void part8FromTheLowestOne() {
        for (int m = 0; m < 3; m++) {
            int lowest = m == 0 ? 1 : 0;
            VotedTriple x = Make.started(Make.go(0));
            x.swap(m);
            for (int k = 0; k < 3; k++) {
                // Register 7 hides register 6 from the digest: each one has registers of its own.
                x.flip(k, 0, 6, k + 1);
                x.flip(k, 0, 7, k);
            }
            x.step(19);
            x.flip(lowest, 1, 19, 4);
            x.step(1);
            Check.same("the code of the lowest one IN STEP, as it is", 16, x.code(m, 19));
            x.step(12);
            Check.same("IN STEP", 0, x.module(m, 0));
            Check.same("the registers of the lowest one IN STEP", 2 << lowest, x.register(m, 6));
            Check.same("the registers of the lowest one IN STEP", 1 << lowest, x.register(m, 7));
        }
    }

    private static void part8EachOneAlone() {
        for (int m = 0; m < 3; m++) {
            VotedTriple x = Make.started(Make.in(0), Make.out(0), Make.store(0, 1, 2), Make.go(3));
            x.allow(true);
            x.input(5);
            x.swap((m + 1) % 3);
            x.swap((m + 2) % 3);
            Check.same("step(31)", 31, x.step(31));
            Check.same("alone", 1, x.state(0));
            Check.same("output(0)", 5, x.output(0));
            x.step(1);
            Check.same("all three", 3, x.state(0));
            Check.same("code", 90, x.code((m + 1) % 3, 2));
            Check.same("register", 5, x.register((m + 2) % 3, 0));
        }
    }

    private static void part8TwoAtOnce() {
        VotedTriple x = Make.started(Make.set(0, 9), Make.go(1));
        x.allow(true);
        x.swap(0);
        x.step(1);
        x.swap(1);
        x.step(30);
        Check.same("mode", 1, x.state(0));
        x.flip(0, 1, 30, 3);
        x.step(1);
        Check.same("mode", 2, x.state(0));
        Check.same("the source is the one that was IN STEP", 0, x.code(1, 30));
        x.step(1);
        Check.same("mode", 3, x.state(0));
        Check.same("register", 9, x.register(1, 0));
    }

    private static void part8NotTheNamedOfThisStep() {
        VotedTriple x = Make.started(Make.out(0));
        x.flip(0, 0, 0, 0);
        x.step(1);
        Check.same("MARK of one that is named", 0, x.module(0, 1));
        x.step(1);
        Check.same("MARK in the next step", 1, x.module(0, 1));
    }

    private static void part9BlameGetsLess() {
        VotedTriple x = Make.started(Make.out(0));
        x.flip(0, 0, 0, 0);
        x.step(3);
        Check.same("BLAME at step 3", 20, x.module(0, 2));
        x.step(1);
        Check.same("BLAME at step 4", 19, x.module(0, 2));
        x.step(3);
        Check.same("BLAME at step 7", 19, x.module(0, 2));
        x.step(72);
        Check.same("BLAME at step 79", 1, x.module(0, 2));
        x.step(1);
        Check.same("BLAME at step 80", 0, x.module(0, 2));
        x.step(4);
        Check.same("BLAME at step 84", 0, x.module(0, 2));
    }

    public static void main(String[] args) {
        part2ThirdOneIsNamed();
        part2TwoAreTheMajorityEvenIfWrong();
        part2ThreeUnlikeEndSafe();
        part2SafeLeavesTheWordIn();
        part2SpoiltCounts();
        part2PairWithOneSpoilt();
        part2FrozenOneReadsSpoiltAllTheSame();
        part2NothingIsAlikeToNothing();
        part3WordInForAllWhoseInstructionIsIn();
        part3ZeroIfNoWordInIsAgreed();
        part4StoresBelowTheMark();
        part4NotAtTheMark();
        part4OfTheLowestThatIsNotNamed();
        part5TurnsThroughAllWords();
        part5SpoiltOnesAreNamed();
        part5AllSpoiltEndsSafe();
        part5LeavesOutTheNamed();
        part6EverySixteenSteps();
        part6WhatTheDigestIs();
        part6UnlikeEndsSafe();
        part6LeavesOutTheNamed();
        part7OneLeftThatIsNotAllowed();
        part7FiftyIsOut();
        part7JustFifty();
        part8CopiesAsItIs();
        part8FromTheLowestOne();
        part8EachOneAlone();
        part8TwoAtOnce();
        part8NotTheNamedOfThisStep();
        part9BlameGetsLess();
        Check.end();
    }
}
