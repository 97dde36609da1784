/** Promise 2, and the lines of "Terms": which lines are taken, on both sides of each bound. */
public final class LineTest {
    private static final Class<IllegalArgumentException> NOT_AS_SAID = IllegalArgumentException.class;
    private static final Class<IllegalStateException> NO_ROOM = IllegalStateException.class;
    private static final int[] ODD_NUMBERS = {Check.LOW, -256, -1, 0, 1, 41, 256, 65536, Check.HIGH};
    private static final int A = 0;
    private static final int B = 1;
    private static final int C = 2;

    public static void main(String[] args) {
        kinds();
        registers();
        labels();
        smallNumbers();
        works();
        offsets();
        anyConstant();
        conditions();
        spaces();
        numbersThatAreNotNamed();
        theLinesAreNumbered();
        theLimitOfLines();
        eachLabelOnce();
        whichThrowComesFirst();
        aThrowChangesNothing();
        aThrowOfAFullSourceChangesNothing();
        Check.end();
    }

    private static void taken(int kind, int a, int b, int c) {
        PoolAssembler x = new PoolAssembler();
        Check.due(told(kind, a, b, c), 0, x.line(kind, a, b, c));
        Check.due("the next line after " + told(kind, a, b, c), 1, x.line(15, 0, 0, 0));
    }

    private static void notAsSaid(int kind, int a, int b, int c) {
        PoolAssembler x = new PoolAssembler();
        Check.dueThrow(told(kind, a, b, c), NOT_AS_SAID, () -> x.line(kind, a, b, c));
        Check.due("the next line after " + told(kind, a, b, c), 0, x.line(15, 0, 0, 0));
    }

    private static String told(int kind, int a, int b, int c) {
        return "line(" + kind + ", " + a + ", " + b + ", " + c + ")";
    }

    /** One number of a line of this kind is n; the others are 1, which every kind takes at every place. */
    private static void ask(boolean fine, int kind, int which, int n) {
        int a = which == A ? n : 1;
        int b = which == B ? n : 1;
        int c = which == C ? n : 1;
        if (fine) {
            taken(kind, a, b, c);
        } else {
            notAsSaid(kind, a, b, c);
        }
    }

    /** The last numbers that are still right and the first that are not, and some that are right in their low bits. */
    private static void within(int low, int high, int kind, int... places) {
        for (int which : places) {
            for (int n = low; n <= high; n++) {
                ask(true, kind, which, n);
            }
            for (int n : new int[] {low - 1, high + 1, low - 256, high + 256, high + 65536, Check.LOW, Check.HIGH}) {
                ask(false, kind, which, n);
            }
        }
    }

    /** No other c than these, of all that a half has room for and some more. */
    private static void noneButThese(int kind, int... these) {
        for (int n = -20; n <= 300; n++) {
            boolean fine = false;
            for (int one : these) {
                fine |= n == one;
            }
            ask(fine, kind, C, n);
        }
        ask(false, kind, C, Check.LOW);
        ask(false, kind, C, Check.HIGH);
    }

    private static void kinds() {
        Check.sentence("A line has a kind and numbers a, b, c.");
        for (int kind = 0; kind <= 15; kind++) {
            taken(kind, 1, 1, 1);
        }
        for (int kind : new int[] {-1, 16, -16, 17, 31, 256, 65536, Check.LOW, Check.HIGH}) {
            notAsSaid(kind, 1, 1, 1);
        }
    }

    private static void registers() {
        Check.sentence("Registers are 0 .. 7");
        for (int kind = 1; kind <= 4; kind++) {
            within(0, 7, kind, A);
        }
        within(0, 7, 5, A, B, C);
        within(0, 7, 6, A, B, C);
        within(0, 7, 7, A, B);
        within(0, 7, 8, A, B);
        within(0, 7, 9, A, B);
        within(0, 7, 10, A);
    }

    private static void labels() {
        Check.sentence("labels 0 .. 15");
        within(0, 15, 0, A);
        within(0, 15, 11, A);
        within(0, 15, 12, A);
    }

    private static void smallNumbers() {
        Check.sentence("small numbers 0 .. 255");
        for (int kind = 1; kind <= 4; kind++) {
            within(0, 255, kind, B);
        }
    }

    private static void works() {
        Check.sentence("c is 0 AND, 1 XOR, 10 COMPARE, 12 OR, 13 MULTIPLY, 14 CLEAR, 15 NOT");
        noneButThese(7, 0, 1, 10, 12, 13, 14, 15);
    }

    private static void offsets() {
        Check.sentence("registers a and b, c 0 .. 31");
        within(0, 31, 8, C);
        within(0, 31, 9, C);
    }

    private static void anyConstant() {
        Check.sentence("10 CONSTANT a, b (register, any int).");
        for (int odd : ODD_NUMBERS) {
            taken(10, 0, odd, 0);
        }
    }

    private static void conditions() {
        Check.sentence("12 BRANCH a IF c");
        noneButThese(12, 0, 1, 2, 3, 4, 5, 10, 11, 12, 13);
    }

    private static void spaces() {
        Check.sentence("13 SPACE a (1 .. 40).");
        within(1, 40, 13, A);
    }

    private static void numbersThatAreNotNamed() {
        Check.sentence("Numbers that a kind does not name may be any.");
        for (int odd : ODD_NUMBERS) {
            for (int other : ODD_NUMBERS) {
                makes(told(0, 14, odd, other), Check.source(0, 15, 0, 0, 0, 14, odd, other, 11, 14, 0, 0), 0xE7FE);
                makes(told(11, 15, odd, other), Check.source(0, 15, 0, 0, 11, 15, odd, other), 0xE7FE);
                makes(told(13, 2, odd, other), Check.source(13, 2, odd, other), 18112, 18112);
                makes(told(14, odd, other, odd), Check.source(14, odd, other, odd));
                makes(told(15, odd, other, odd), Check.source(15, odd, other, odd), 0xBE00);
            }
            makes(told(1, 7, 255, odd), Check.source(1, 7, 255, odd), 0x27FF);
            makes(told(2, 7, 255, odd), Check.source(2, 7, 255, odd), 0x2FFF);
            makes(told(3, 7, 255, odd), Check.source(3, 7, 255, odd), 0x37FF);
            makes(told(4, 7, 255, odd), Check.source(4, 7, 255, odd), 0x3FFF);
            makes(told(10, 7, 5, odd), Check.source(10, 7, 5, odd, 15, 0, 0, 0), 0x4F00, 0xBE00, 5, 0);
            makes(told(12, 15, odd, 13), Check.source(0, 15, 0, 0, 12, 15, odd, 13), 0xDDFE);
        }
    }

    private static void makes(String what, PoolAssembler x, int... halves) {
        Check.due(what + ": assemble", halves.length, x.assemble());
        Check.dueHalves(what, x, halves);
    }

    private static void theLinesAreNumbered() {
        Check.sentence("LINES of a source, at most 160, are numbered 0, 1, ..");
        PoolAssembler x = new PoolAssembler();
        for (int i = 0; i < 16; i++) {
            Check.due("line " + i, i, x.line(i, 1, 1, 1));
        }
        x.assemble();
        Check.due("assemble leaves the source", 16, x.line(11, 0, 0, 0));
        Check.refuses("the branch", x, 16);
        Check.due("a refused assemble leaves the source, too", 17, x.line(0, 0, 0, 0));
    }

    private static void theLimitOfLines() {
        Check.sentence("IllegalStateException when there are 160");
        for (int kind = 1; kind <= 15; kind++) {
            PoolAssembler x = new PoolAssembler();
            int sort = kind;
            for (int i = 0; i < 160; i++) {
                Check.due("line " + i + " of kind " + kind, i, x.line(kind, 1, 1, 1));
            }
            Check.dueThrow("line 160 of kind " + kind, NO_ROOM, () -> x.line(sort, 1, 1, 1));
            Check.dueThrow("once more", NO_ROOM, () -> x.line(sort, 1, 1, 1));
            Check.dueThrow("line 160, a label", NO_ROOM, () -> x.line(0, 1, 1, 1));
        }
        PoolAssembler x = new PoolAssembler();
        for (int i = 0; i < 144; i++) {
            x.line(14, 0, 0, 0);
        }
        for (int label = 0; label < 16; label++) {
            Check.due("labels are lines, too", 144 + label, x.line(0, label, 0, 0));
        }
        Check.dueThrow("line 160 behind labels", NO_ROOM, () -> x.line(15, 0, 0, 0));
    }

    private static void eachLabelOnce() {
        Check.sentence("or the label has a line");
        PoolAssembler x = new PoolAssembler();
        for (int label = 0; label < 16; label++) {
            Check.due("label " + label, label, x.line(0, label, 0, 0));
            for (int before = 0; before <= label; before++) {
                int again = before;
                Check.dueThrow("label " + before + " again", NO_ROOM, () -> x.line(0, again, 1, 1));
            }
        }
        Check.due("a branch is no line of the label", 16, x.line(11, 3, 0, 0));
        Check.due("the next branch to it", 17, x.line(11, 3, 0, 0));
        Check.due("a branch if", 18, x.line(12, 3, 0, 0));
        PoolAssembler branches = Check.source(11, 3, 0, 0, 12, 3, 0, 0);
        Check.due("the label behind its branches", 2, branches.line(0, 3, 0, 0));
        Check.dueThrow("the label once more", NO_ROOM, () -> branches.line(0, 3, 0, 0));
    }

    /** The document tells no order where both are due; the exception that it names first comes first. */
    private static void whichThrowComesFirst() {
        Check.sentence("IllegalArgumentException when it is not as said; IllegalStateException when there are 160");
        PoolAssembler x = new PoolAssembler();
        Check.space(x, 160 * 40);
        Check.dueThrow("a wrong register beyond the limit", NOT_AS_SAID, () -> x.line(1, 8, 0, 0));
        Check.dueThrow("a wrong label beyond the limit", NOT_AS_SAID, () -> x.line(0, 16, 0, 0));
        Check.dueThrow("a wrong kind beyond the limit", NOT_AS_SAID, () -> x.line(16, 0, 0, 0));
    }

    /** The object has a source, an image, a refused line and a run that is under way: all of it stays. */
    private static void aThrowChangesNothing() {
        Check.sentence("Throws, changing nothing");
        PoolAssembler x = Check.made(0, 2, 0, 0, 4, 1, 5, 0, 10, 3, 70000, 0, 11, 2, 0, 0);
        x.run(2);
        x.line(11, 7, 0, 0);
        Check.refuses("a branch without its label", x, 4);
        String before = Check.seen(x);
        Check.dueThrow("a label again", NO_ROOM, () -> x.line(0, 2, 0, 0));
        Check.dueThrow("a wrong label", NOT_AS_SAID, () -> x.line(0, 16, 0, 0));
        Check.dueThrow("a wrong label", NOT_AS_SAID, () -> x.line(0, -1, 0, 0));
        Check.dueThrow("a wrong condition", NOT_AS_SAID, () -> x.line(12, 2, 0, 9));
        Check.dueThrow("a wrong kind", NOT_AS_SAID, () -> x.line(16, 2, 0, 9));
        Check.dueThrow("a constant to a wrong register", NOT_AS_SAID, () -> x.line(10, 8, 99999, 0));
        Check.dueSeen("behind the throws", before, Check.seen(x));
        Check.due("the next line", 5, x.line(0, 7, 0, 0));
        Check.due("assemble", 6, x.assemble());
        Check.dueHalves("the first line of the label counts", x, 0x3905, 18432 + 768 + 1, 0xE7FC, 0xE001, 4464, 1);
    }

    private static void aThrowOfAFullSourceChangesNothing() {
        Check.sentence("Throws, changing nothing");
        PoolAssembler x = new PoolAssembler();
        for (int i = 0; i < 158; i++) {
            x.line(14, 0, 0, 0);
        }
        Check.add(x, 10, 0, 7, 0, 15, 0, 0, 0);
        Check.dueThrow("a constant more", NO_ROOM, () -> x.line(10, 0, 8, 0));
        Check.dueThrow("a label more", NO_ROOM, () -> x.line(0, 0, 0, 0));
        Check.dueThrow("a wrong line more", NOT_AS_SAID, () -> x.line(13, 41, 0, 0));
        Check.due("assemble", 4, x.assemble());
        Check.dueHalves("of the 160 lines", x, 18432, 0xBE00, 7, 0);
        x.clear();
        x.line(11, 0, 0, 0);
        Check.refuses("the label that was too much has no line", x, 0);
    }
}
