/** The terms: the code of a word and how it is read. */
final class CodeTest {
    /** Steps 1 .. 3 do not go over word 20. */
    private static final int WORD = 20;

    private static VotedTriple storing(int word) {
        VotedTriple x = Make.started(Make.in(0), Make.store(0, 1, WORD), Make.load(2, 1, WORD), Make.go(3));
        x.input(word);
        x.step(2);
        return x;
    }

    private static void codes() {
        int[][] known = {{0, 0}, {1, 15}, {5, 90}, {8, 150}, {0x8000, 2162706}, {0xFFFF, 4194300}};
        for (int[] pair : known) {
            VotedTriple x = storing(pair[0]);
            for (int m = 0; m < 3; m++) {
                Check.same("the code of " + pair[0], pair[1], x.code(m, WORD));
            }
            x.step(1);
            Check.same("that code is read", pair[0], x.register(0, 2));
            Check.same("nothing is put right", 0, x.module(0, 4));
        }
        for (int word = 0; word < 65536; word += 251) {
            VotedTriple x = storing(word);
            Check.same("the code of " + word, PlainModel.codeOf(word), x.code(1, WORD));
            x.step(1);
            Check.same("that code is read", word, x.register(1, 2));
        }
    }

    private static void oneWrongBitIsPutRight() {
        for (int bit = 0; bit < 22; bit++) {
            VotedTriple x = storing(0xB00F);
            int right = x.code(0, WORD);
            x.flip(1, 1, WORD, bit);
            Check.same("flipped", right ^ 1 << bit, x.code(1, WORD));
            x.step(1);
            Check.same("word with bit " + bit + " wrong", 0xB00F, x.register(1, 2));
            Check.same("code with bit " + bit + " wrong", right, x.code(1, WORD));
            Check.same("put right", 1, x.module(1, 4));
            Check.same("put right in another one", 0, x.module(0, 4));
            Check.same("mode", 3, x.state(0));
            Check.same("not alike", 0, x.state(2));
        }
    }

    private static void twoWrongBitsAreSpoilt() {
        for (int bit = 0; bit < 22; bit++) {
            for (int other = bit + 1; other < 22; other++) {
                VotedTriple x = storing(0xB00F);
                x.flip(1, 1, WORD, bit);
                x.flip(1, 1, WORD, other);
                int spoilt = x.code(1, WORD);
                x.step(1);
                Check.same("word with bits " + bit + ", " + other + " wrong", 0, x.register(1, 2));
                Check.same("the code stays", spoilt, x.code(1, WORD));
                Check.same("put right", 0, x.module(1, 4));
                Check.same("named", 1, x.module(1, 5));
            }
        }
    }

    private static void threeWrongBits() {
        VotedTriple x = storing(0);
        for (int bit : new int[] {1, 2, 4}) {
            x.flip(0, 1, WORD, bit);
        }
        for (int bit : new int[] {1, 8, 16}) {
            x.flip(2, 1, WORD, bit);
        }
        x.step(1);
        Check.same("1, 2, 4 wrong: bit 7 is held to be wrong", 150, x.code(0, WORD));
        Check.same("so the word is 8", 8, x.register(0, 2));
        Check.same("put right", 1, x.module(0, 4));
        Check.same("1, 8, 16 wrong: 25 is above 21, the code stays", 2 + 256 + 65536, x.code(2, WORD));
        Check.same("the word counts as 0", 0, x.register(2, 2));
        Check.same("not put right", 0, x.module(2, 4));
        Check.same("it read a SPOILT code", 1, x.module(2, 5));
    }

    private static void edgeOfTheBits() {
        VotedTriple x = storing(0);
        for (int bit : new int[] {1, 4, 16}) {
            x.flip(0, 1, WORD, bit);
        }
        for (int bit : new int[] {2, 4, 16}) {
            x.flip(1, 1, WORD, bit);
        }
        x.step(1);
        Check.same("1, 4, 16 wrong: 21 is put right", 2162706, x.code(0, WORD));
        Check.same("the word is 32768", 0x8000, x.register(0, 2));
        Check.same("2, 4, 16 wrong: 22 is SPOILT", 4 + 16 + 65536, x.code(1, WORD));
        Check.same("that one is named", 1, x.module(1, 5));
    }

    private static void storingNeedsNoReading() {
        VotedTriple x = Make.started(Make.set(0, 5), Make.store(0, 1, WORD));
        Make.spoil(x, 0, WORD);
        x.step(2);
        Check.same("the code is new", 90, x.code(0, WORD));
        Check.same("nothing was put right", 0, x.module(0, 4));
        Check.same("mode", 3, x.state(0));
    }

    public static void main(String[] args) {
        codes();
        oneWrongBitIsPutRight();
        twoWrongBitsAreSpoilt();
        threeWrongBits();
        edgeOfTheBits();
        storingNeedsNoReading();
        Check.end();
    }
}
