/** Promises 4 (step), 5 (input), 6 (output) and 7 (perfect). */
final class StepAndWordsTest {
    private static void promise4Arguments() {
        VotedTriple x = Make.programmed(Make.go(0));
        for (int n : new int[] {1, 0, 2001}) {
            Check.throwing("step(" + n + ") before start()", IllegalStateException.class, () -> x.step(n));
        }
        x.start();
        for (int n : new int[] {0, -1, 2001, Integer.MIN_VALUE, Integer.MAX_VALUE}) {
            Check.throwing("step(" + n + ")", IllegalArgumentException.class, () -> x.step(n));
        }
        Check.same("steps", 0, x.state(1));
        Check.same("step(1)", 1, x.step(1));
        Check.same("step(2000)", 2000, x.step(2000));
        Check.same("steps", 2001, x.state(1));
    }

    private static void promise4StopsInSafety() {
        VotedTriple x = Make.started(Make.set(1, 1), Make.out(0));
        x.flip(0, 0, 0, 0);
        x.flip(1, 0, 0, 1);
        Check.same("the step that ends SAFE is one", 2, x.step(50));
        Check.same("steps", 2, x.state(1));
        Check.same("mode", 0, x.state(0));
        Check.same("step(1) when SAFE", 0, x.step(1));
        Check.throwing("step(0) when SAFE", IllegalArgumentException.class, () -> x.step(0));
        Check.same("steps", 2, x.state(1));
        Check.same("the PERFECT one did the step that ended SAFE, and no more", 1, x.state(4));
    }

    private static void promise5WordsComeInTheirOrder() {
        VotedTriple x = Make.programmed(Make.in(3), Make.out(3));
        Check.no("input before start()", x.input(1));
        x.start();
        Check.yes("input(65536 + 7)", x.input(65536 + 7));
        Check.yes("input(-1)", x.input(-1));
        Check.same("words that wait", 2, x.state(5));
        x.step(4);
        Check.same("the lowest 16 bits", 7, x.output(0));
        Check.same("the lowest 16 bits of -1", 65535, x.output(1));
        Check.same("words that wait", 0, x.state(5));
        x.step(2);
        Check.same("0 if none waits", 0, x.output(2));
        x.input(9);
        x.step(2);
        Check.same("none was taken then", 9, x.output(3));
        Check.same("the PERFECT one did not take one ahead", 9, x.perfect(3));
    }

    private static void promise5SixtyFourSinceTheStart() {
        VotedTriple x = Make.started(Make.in(0), Make.out(0));
        for (int k = 0; k < 64; k++) {
            if (k == 40) {
                x.step(20);
            }
            Check.yes("input " + k, x.input(100 + k));
        }
        Check.no("input 64", x.input(1));
        Check.same("words that wait", 54, x.state(5));
        x.step(108);
        Check.no("input 64, none waits", x.input(1));
        for (int k = 0; k < 64; k++) {
            Check.same("output(" + k + ")", 100 + k, x.output(k));
            Check.same("perfect(" + k + ")", 100 + k, x.perfect(k));
        }
        x.start();
        Check.yes("input behind start()", x.input(1));
    }

    private static void promise5AlsoWhenSafe() {
        VotedTriple x = Make.started(Make.out(0));
        x.flip(0, 0, 0, 0);
        x.flip(1, 0, 0, 1);
        x.step(1);
        Check.yes("input when SAFE", x.input(1));
        Check.same("it waits", 1, x.state(5));
    }

    private static void promises6And7Keep300() {
        VotedTriple x = Make.started(Make.set(1, 1), Make.add(0, 0, 1), Make.out(0), Make.go(1));
        Check.throwing("output(0)", IndexOutOfBoundsException.class, () -> x.output(0));
        Check.throwing("perfect(0)", IndexOutOfBoundsException.class, () -> x.perfect(0));
        x.step(3 * 300);
        Check.same("words out", 300, x.state(3));
        x.step(3 * 50);
        Check.same("words out", 350, x.state(3));
        Check.same("words out of the PERFECT one", 350, x.state(4));
        for (int i = 2; i < 300; i += 3) {
            Check.same("output(" + i + ")", i + 1, x.output(i));
            Check.same("perfect(" + i + ")", i + 1, x.perfect(i));
        }
        for (int i : new int[] {-1, 300, 349, 350, Integer.MAX_VALUE, Integer.MIN_VALUE}) {
            Check.throwing("output(" + i + ")", IndexOutOfBoundsException.class, () -> x.output(i));
            Check.throwing("perfect(" + i + ")", IndexOutOfBoundsException.class, () -> x.perfect(i));
        }
    }

    private static void promises6And7ThereIsNoneSuchYet() {
        VotedTriple x = Make.started(Make.out(0), Make.go(0));
        x.step(1);
        Check.same("output(0)", 0, x.output(0));
        Check.throwing("output(1)", IndexOutOfBoundsException.class, () -> x.output(1));
        Check.throwing("perfect(1)", IndexOutOfBoundsException.class, () -> x.perfect(1));
    }

    /** All frozen: nothing goes out and nothing is taken, but the PERFECT one goes on. */
    private static void promise7ThePerfectOneIsAlone() {
        VotedTriple x = Make.started(Make.in(0), Make.store(0, 1, 4), Make.load(2, 1, 4), Make.out(2));
        x.input(77);
        for (int m = 0; m < 3; m++) {
            x.freeze(m, true);
            x.flip(m, 0, 1, 0);
        }
        x.step(4);
        Check.same("words out", 0, x.state(3));
        Check.same("words that wait", 1, x.state(5));
        Check.same("words out of the PERFECT one", 1, x.state(4));
        Check.same("perfect(0)", 77, x.perfect(0));
        Check.same("mode", 3, x.state(0));
        for (int m = 0; m < 3; m++) {
            x.freeze(m, false);
        }
        x.input(78);
        x.step(4);
        Check.same("the modules take the first word", 77, x.output(0));
        Check.same("the PERFECT one takes the second one", 78, x.perfect(1));
    }

    public static void main(String[] args) {
        promise4Arguments();
        promise4StopsInSafety();
        promise5WordsComeInTheirOrder();
        promise5SixtyFourSinceTheStart();
        promise5AlsoWhenSafe();
        promises6And7Keep300();
        promises6And7ThereIsNoneSuchYet();
        promise7ThePerfectOneIsAlone();
        Check.end();
    }
}
