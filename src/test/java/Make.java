/** Instructions by name, and objects that are started with a program. */
final class Make {
    private Make() {
    }

    static int instruction(int op, int a, int b, int c) {
        return op << 24 | a << 16 | b << 8 | c;
    }

    static int set(int a, int word) {
        return instruction(0, a, word >> 8, word & 255);
    }

    static int add(int a, int b, int c) {
        return instruction(1, a, b, c);
    }

    static int sub(int a, int b, int c) {
        return instruction(2, a, b, c);
    }

    static int xor(int a, int b, int c) {
        return instruction(3, a, b, c);
    }

    static int shift(int a, int b, int c) {
        return instruction(4, a, b, c);
    }

    static int load(int a, int b, int c) {
        return instruction(5, a, b, c);
    }

    static int store(int a, int b, int c) {
        return instruction(6, a, b, c);
    }

    static int zero(int a, int b) {
        return instruction(7, a, b, 0);
    }

    static int go(int b) {
        return instruction(8, 0, b, 0);
    }

    static int in(int a) {
        return instruction(9, a, 0, 0);
    }

    static int out(int a) {
        return instruction(10, a, 0, 0);
    }

    static VotedTriple programmed(int... instructions) {
        VotedTriple made = new VotedTriple();
        for (int i = 0; i < instructions.length; i++) {
            Check.yes("program(" + i + ", " + instructions[i] + ")", made.program(i, instructions[i]));
        }
        return made;
    }

    static VotedTriple started(int... instructions) {
        VotedTriple made = programmed(instructions);
        Check.yes("start()", made.start());
        return made;
    }

    /** Two wrong bits: the code of that word is SPOILT, whatever the word is. */
    static void spoil(VotedTriple x, int m, int word) {
        x.flip(m, 1, word, 3);
        x.flip(m, 1, word, 5);
    }
}
