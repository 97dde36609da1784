/** Promises 2 and 3: line and clear. */
public final class LineTest {
    private static final Class<IllegalArgumentException> NOT_AS_SAID = IllegalArgumentException.class;
    private static final Class<IllegalStateException> NO_ROOM = IllegalStateException.class;
    private static final int[] ODD_NUMBERS = {Integer.MIN_VALUE, -256, -1, 41, 256, Integer.MAX_VALUE};

    public static void main(String[] args) {
        numbersWithinBounds();
        numbersThatAreNotNamed();
        theLimitOfLines();
        labelsOnce();
        whichThrowComesFirst();
        aThrowChangesNothing();
        clearEmptiesTheSourceAlone();
        Check.end();
    }

    private static void numbersWithinBounds() {
        for (int kind = -3; kind <= 20; kind++) {
            for (int n = -3; n <= 300; n++) {
                ask(kind, n, 0, 0, asSaid(kind, n, 0, 0));
                ask(kind, 1, n, 0, asSaid(kind, 1, n, 0));
                ask(kind, 1, 0, n, asSaid(kind, 1, 0, n));
            }
        }
        for (int odd : ODD_NUMBERS) {
            ask(odd, 0, 0, 0, false);
        }
    }

    private static void ask(int kind, int a, int b, int c, boolean fine) {
        PoolAssembler x = new PoolAssembler();
        String what = "line(" + kind + ", " + a + ", " + b + ", " + c + ")";
        if (fine) {
            Check.due(what, 0, x.line(kind, a, b, c));
        } else {
            Check.dueThrow(what, NOT_AS_SAID, () -> x.line(kind, a, b, c));
            Check.due("the next line after " + what, 0, x.line(15, 0, 0, 0));
        }
    }

    /** The table of lines, told by text: r a register, l a label, s a small number, o an offset, p a space, * any. */
    private static boolean asSaid(int kind, int a, int b, int c) {
        String[] table = {"l**", "rs*", "rs*", "rs*", "rs*", "rrr", "rrr", "rrd", "rro", "rro", "r**", "l**", "l*i",
            "p**", "***", "***"};
        if (kind < 0 || kind > 15) {
            return false;
        }
        return fits(table[kind].charAt(0), a) && fits(table[kind].charAt(1), b) && fits(table[kind].charAt(2), c);
    }

    private static boolean fits(char form, int n) {
        switch (form) {
            case 'r': return n >= 0 && n <= 7;
            case 'l': return n >= 0 && n <= 15;
            case 's': return n >= 0 && n <= 255;
            case 'o': return n >= 0 && n <= 31;
            case 'p': return n >= 1 && n <= 40;
            case 'd': return " 0 1 10 12 13 14 15 ".contains(" " + n + " ");
            case 'i': return " 0 1 2 3 4 5 10 11 12 13 ".contains(" " + n + " ");
            default: return true;
        }
    }

    private static void numbersThatAreNotNamed() {
        for (int odd : ODD_NUMBERS) {
            ask(0, 15, odd, odd, true);
            ask(1, 7, 255, odd, true);
            ask(2, 7, 255, odd, true);
            ask(3, 7, 255, odd, true);
            ask(4, 7, 255, odd, true);
            ask(10, 7, odd, odd, true);
            ask(11, 15, odd, odd, true);
            ask(12, 15, odd, 13, true);
            ask(13, 40, odd, odd, true);
            ask(14, odd, odd, odd, true);
            ask(15, odd, odd, odd, true);
        }
    }

    private static void theLimitOfLines() {
        PoolAssembler x = new PoolAssembler();
        for (int i = 0; i < 160; i++) {
            Check.due("line " + i, i, x.line(i % 2 == 0 ? 14 : 1, 0, 0, 0));
        }
        Check.dueThrow("line 160", NO_ROOM, () -> x.line(1, 0, 0, 0));
        Check.dueThrow("line 160, a pool", NO_ROOM, () -> x.line(14, 0, 0, 0));
        Check.dueThrow("line 160, a label", NO_ROOM, () -> x.line(0, 0, 0, 0));
        Check.due("assemble", 80, x.assemble());
        x.clear();
        Check.due("line after clear", 0, x.line(0, 0, 0, 0));
    }

    private static void labelsOnce() {
        PoolAssembler x = new PoolAssembler();
        for (int label = 0; label < 16; label++) {
            Check.due("label " + label, label, x.line(0, label, 0, 0));
        }
        for (int label = 0; label < 16; label++) {
            int again = label;
            Check.dueThrow("label " + label + " again", NO_ROOM, () -> x.line(0, again, 1, 1));
        }
        Check.due("a branch is no line of the label", 16, x.line(11, 3, 0, 0));
        Check.due("the next one", 17, x.line(11, 3, 0, 0));
    }

    private static void whichThrowComesFirst() {
        PoolAssembler x = new PoolAssembler();
        Check.space(x, 160 * 40);
        Check.dueThrow("a wrong line beyond the limit", NOT_AS_SAID, () -> x.line(1, 8, 0, 0));
        Check.dueThrow("a wrong kind beyond the limit", NOT_AS_SAID, () -> x.line(16, 0, 0, 0));
    }

    private static void aThrowChangesNothing() {
        PoolAssembler x = Check.source(0, 2, 0, 0, 1, 1, 5, 0, 11, 2, 0, 0);
        Check.dueThrow("label again", NO_ROOM, () -> x.line(0, 2, 0, 0));
        Check.dueThrow("a wrong label", NOT_AS_SAID, () -> x.line(0, 16, 0, 0));
        Check.dueThrow("a wrong condition", NOT_AS_SAID, () -> x.line(12, 2, 0, 9));
        Check.due("assemble", 2, x.assemble());
        Check.dueHalves("the first line of the label counts", x, 8192 + 256 + 5, 57344 + 2048 - 3);
    }

    private static void clearEmptiesTheSourceAlone() {
        PoolAssembler x = Check.source(0, 1, 0, 0, 10, 0, 70000, 0, 15, 0, 0, 0);
        Check.due("assemble", 4, x.assemble());
        Check.due("run", 0, x.run(1));
        x.clear();
        Check.due("size stays", 4, x.size());
        Check.due("pools stay", 1, x.pools());
        Check.due("half stays", 18432, x.half(0));
        Check.due("register stays", 70000, x.register(0));
        Check.due("place stays", 2, x.register(8));
        Check.due("the run goes on", 1, x.run(1));
        Check.due("label again after clear", 0, x.line(0, 1, 0, 0));
        x.clear();
        Check.due("a branch alone", 0, x.line(11, 1, 0, 0));
        Check.refuses("the label is gone with clear", x, 0);
        x.clear();
        Check.due("refused stays", 0, x.refused());
        Check.due("assemble of the empty source", 0, x.assemble());
        Check.due("size", 0, x.size());
        Check.due("pools", 0, x.pools());
        Check.due("no half is left", 0, x.half(0));
    }
}
