/** The terms: what each instruction does, in every module and in the PERFECT one. */
final class InstructionsTest {
    /** Register 0 behind the instructions, in the modules and (by OUT 0) in the PERFECT one. */
    private static void gives(String what, int due, int... instructions) {
        int[] all = java.util.Arrays.copyOf(instructions, instructions.length + 1);
        all[instructions.length] = Make.out(0);
        VotedTriple x = Make.started(all);
        Check.same(what + ": step", all.length, x.step(all.length));
        for (int m = 0; m < 3; m++) {
            Check.same(what + ": register(" + m + ", 0)", due, x.register(m, 0));
        }
        Check.same(what + ": output(0)", due, x.output(0));
        Check.same(what + ": perfect(0)", due, x.perfect(0));
    }

    private static void reckoning() {
        gives("SET", 0xABCD, Make.set(0, 0xABCD));
        gives("ADD", 1300, Make.set(1, 1000), Make.set(2, 300), Make.add(0, 1, 2));
        gives("ADD beyond 16 bits", 2, Make.set(1, 0xFFFF), Make.set(2, 3), Make.add(0, 1, 2));
        gives("SUB", 700, Make.set(1, 1000), Make.set(2, 300), Make.sub(0, 1, 2));
        gives("SUB below 0", 4, Make.set(1, 3), Make.set(2, 0xFFFF), Make.sub(0, 1, 2));
        gives("XOR", 0xFFFC, Make.set(1, 0xFFFF), Make.set(2, 3), Make.xor(0, 1, 2));
        gives("SHIFT without a sign", 0x0FFF, Make.set(1, 0xFFFF), Make.set(2, 4), Make.shift(0, 1, 2));
        gives("SHIFT by the lowest 4 bits", 0x0FFF, Make.set(1, 0xFFFF), Make.set(2, 0x1234), Make.shift(0, 1, 2));
        gives("SHIFT by 15", 1, Make.set(1, 0x8000), Make.set(2, 15), Make.shift(0, 1, 2));
        gives("SHIFT by 16 is by 0", 0x8000, Make.set(1, 0x8000), Make.set(2, 16), Make.shift(0, 1, 2));
        gives("the same register thrice", 84, Make.set(0, 42), Make.add(0, 0, 0));
    }

    private static void memory() {
        VotedTriple x = Make.started(Make.set(1, 0xFFFF), Make.set(2, 5), Make.store(2, 1, 255), Make.load(3, 4, 30));
        x.step(4);
        for (int m = 0; m < 3; m++) {
            Check.same("(65535 + 255) % 32 is 30: code(" + m + ", 30)", 90, x.code(m, 30));
            Check.same("LOAD of word 30", 5, x.register(m, 3));
        }
        gives("LOAD of what was stored", 5, Make.set(1, 0xFFFF), Make.set(2, 5), Make.store(2, 1, 255), Make.load(0, 4, 30));
        gives("LOAD of (31 + 33) % 32", 8, Make.set(1, 31), Make.set(2, 8), Make.store(2, 3, 0), Make.load(0, 1, 33));
    }

    private static void jumps() {
        gives("ZERO of 0 goes", 1, Make.set(0, 1), Make.zero(3, 3), Make.set(0, 2));
        VotedTriple x = Make.started(Make.set(0, 1), Make.zero(0, 0), Make.set(0, 2));
        x.step(2);
        Check.same("ZERO of 1 does not go", 2, x.module(0, 3));
        x.step(1);
        Check.same("instruction 2 is done", 2, x.register(0, 0));
        Check.same("behind the last one comes the first one", 0, x.module(0, 3));
        VotedTriple y = Make.started(Make.go(2), Make.set(0, 2), Make.out(0), Make.zero(0, 1));
        y.step(1);
        Check.same("GO", 2, y.module(1, 3));
        y.step(2);
        Check.same("ZERO at the end goes", 1, y.module(2, 3));
        VotedTriple z = Make.started(Make.set(0, 1), Make.zero(0, 1));
        z.step(2);
        Check.same("ZERO at the end that does not go wraps", 0, z.module(0, 3));
    }

    private static void partsThatAreNotUsed() {
        VotedTriple x = Make.started(Make.instruction(8, 255, 1, 255), Make.instruction(9, 3, 255, 255),
            Make.instruction(10, 3, 255, 255), Make.instruction(7, 0, 0, 255));
        x.input(8);
        x.step(4);
        Check.same("output(0)", 8, x.output(0));
        Check.same("counter", 0, x.module(0, 3));
    }

    public static void main(String[] args) {
        reckoning();
        memory();
        jumps();
        partsThatAreNotUsed();
        Check.end();
    }
}
