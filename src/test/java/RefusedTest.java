/** Promises 4 and 5: what is refused, on both sides of each bound, and which line is told. */
public final class RefusedTest {
    public static void main(String[] args) {
        labelsWithoutLines();
        branchesForwards(11, 1023);
        branchesForwards(12, 127);
        branchesBackwards(11, 1024);
        branchesBackwards(12, 128);
        branchesOverPools();
        branchesToTheEnd();
        theLowestWord();
        theHighestWordInADuePool();
        theHighestWordAtTheEnd();
        theHighestWordAtAPoolLine();
        theFirstLineOfSeveral();
        theFirstAndTheLastLineOfAFullSource();
        noneRefused();
        theLatestAssembleCounts();
        Check.end();
    }

    private static void labelsWithoutLines() {
        Check.sentence("or whose label has no line");
        Check.refuses("a branch", Check.source(1, 0, 0, 0, 11, 5, 0, 0, 0, 4, 0, 0, 0, 6, 0, 0), 1);
        Check.refuses("a branch if", Check.source(12, 5, 0, 0, 0, 4, 0, 0, 0, 6, 0, 0), 0);
        for (int label = 0; label < 16; label++) {
            for (int kind = 11; kind <= 12; kind++) {
                PoolAssembler x = Check.source(kind, label, 0, 0);
                Check.refuses("kind " + kind + " to label " + label, x, 0);
                x.line(0, label, 0, 0);
                Check.due("with its line", 1, x.assemble());
            }
        }
    }

    private static void sentenceOfReach(int kind) {
        Check.sentence(kind == 11 ? "it must be -1024 .. 1023 for 11" : "-128 .. 127 for 12");
    }

    /** The label is S + 2 halves behind the branch. BRANCH IF UNLIKE goes, as no flag is set yet. */
    private static void branchesForwards(int kind, int most) {
        sentenceOfReach(kind);
        for (int steps = most - 1; steps <= most + 2; steps++) {
            PoolAssembler x = Check.source(13, 1, 0, 0, kind, 0, 0, 1);
            Check.space(x, steps + 1);
            Check.add(x, 0, 0, 0, 0, 15, 0, 0, 0);
            String what = "kind " + kind + " by " + steps;
            if (steps > most) {
                Check.refuses(what, x, 1);
            } else {
                Check.due(what, steps + 4, x.assemble());
                Check.due(what + ": half", (kind == 11 ? 0xE000 : 0xD100) + steps, x.half(1) & 0xFFFF);
                Check.due(what + ": refused", PoolAssembler.NONE, x.refused());
                Check.due(what + ": run", 1, x.run(3));
                Check.due(what + ": place", 2 * (steps + 3), x.register(8));
            }
        }
    }

    /** The label is at 0, -S - 2 halves before the branch. */
    private static void branchesBackwards(int kind, int most) {
        sentenceOfReach(kind);
        for (int steps = most - 1; steps <= most + 2; steps++) {
            PoolAssembler x = Check.source(0, 0, 0, 0);
            Check.space(x, steps - 2);
            int line = x.line(kind, 0, 0, 1);
            String what = "kind " + kind + " by -" + steps;
            if (steps > most) {
                Check.refuses(what, x, line);
            } else {
                int want = kind == 11 ? 0xE000 + 2048 - steps : 0xD100 + 256 - steps;
                Check.due(what, steps - 1, x.assemble());
                Check.due(what + ": half", want, x.half(steps - 2) & 0xFFFF);
                Check.due(what + ": run", 0, x.run(steps - 1));
                Check.due(what + ": place", 0, x.register(8));
            }
        }
    }

    /** CONSTANT at 0, BRANCH IF at 2, the pool from 4 to 12: the label is 6 halves and the SPACE behind 0. */
    private static void branchesOverPools() {
        Check.sentence("S is (address of the label - address of the branch - 4) / 2");
        for (int halves = 123; halves <= 126; halves++) {
            PoolAssembler x = Check.source(10, 0, 5, 0, 12, 0, 0, 0, 14, 0, 0, 0);
            Check.space(x, halves);
            Check.add(x, 0, 0, 0, 0, 15, 0, 0, 0);
            if (halves > 124) {
                Check.refuses("a pool and " + halves + " halves more", x, 1);
            } else {
                Check.due("a pool and " + halves + " halves more", 6 + halves + 1, x.assemble());
                Check.due("the branch", 0xD000 + halves + 3, x.half(1) & 0xFFFF);
            }
        }
    }

    /** The last pool is before the end: without it, the label would be in reach each time. */
    private static void branchesToTheEnd() {
        Check.sentence("that of the end, if none does");
        PoolAssembler x = Check.source(13, 1, 0, 0, 12, 0, 0, 0);
        addConstants(x, 42);
        x.line(0, 0, 0, 0);
        Check.due("by 127: assemble", 2 + 42 + 2 + 84, x.assemble());
        Check.due("by 127: half", 0xD000 + 127, x.half(1) & 0xFFFF);
        PoolAssembler y = Check.source(12, 0, 0, 0);
        addConstants(y, 42);
        Check.add(y, 13, 1, 0, 0, 0, 0, 0, 0);
        Check.refuses("by 128", y, 0);
    }

    private static void addConstants(PoolAssembler x, int many) {
        for (int i = 0; i < many; i++) {
            x.line(10, 0, i, 0);
        }
    }

    /** A constant is never before its BASE: behind its load there is at least a branch, or a HALT. */
    private static void theLowestWord() {
        Check.sentence("W must be 0 .. 255.");
        Check.dueHalves("at a multiple of 4", Check.made(10, 0, 9, 0), 18432, 0xE001, 9, 0);
        Check.dueHalves("behind HALT", Check.made(10, 0, 9, 0, 15, 0, 0, 0), 18432, 48640, 9, 0);
        Check.dueHalves("at no multiple of 4", Check.made(13, 1, 0, 0, 10, 0, 9, 0, 15, 0, 0, 0),
            18112, 18433, 48640, 18112, 9, 0);
    }

    /** The oldest has W 255 here. Each further constant is 4 behind the one before, but its load only 2. */
    private static void theHighestWordInADuePool() {
        Check.sentence("W must be 0 .. 255.");
        PoolAssembler x = Check.source(10, 0, 1, 0, 10, 1, 2, 0, 10, 2, 3, 0);
        Check.space(x, 600);
        Check.refuses("the second of the BASE of the first has W 256", x, 1);
        PoolAssembler y = Check.source(10, 0, 1, 0, 13, 1, 0, 0, 10, 1, 2, 0);
        Check.space(y, 600);
        Check.due("the second with a BASE 4 further", 3 + 600 + 1 + 4, y.assemble());
        Check.due("its W", 18432 + 256 + 255, y.half(2));
        PoolAssembler z = Check.source(13, 1, 0, 0, 10, 0, 1, 0, 10, 1, 2, 0);
        Check.space(z, 600);
        Check.due("from 2 and 4 on, the second has a BASE 4 further, too", 3 + 600 + 1 + 4, z.assemble());
        Check.due("its W", 18432 + 256 + 255, z.half(2));
        PoolAssembler third = Check.source(13, 1, 0, 0, 10, 0, 1, 0, 10, 1, 2, 0, 10, 2, 3, 0);
        Check.space(third, 600);
        Check.refuses("but not the third", third, 3);
        PoolAssembler equal = Check.source(10, 0, 1, 0, 10, 1, 1, 0, 10, 2, 1, 0);
        Check.space(equal, 600);
        Check.due("equal constants", 3 + 600 + 1 + 2, equal.assemble());
        Check.due("their W", 18432 + 256 + 255, equal.half(1));
        Check.due("their W", 18432 + 512 + 254, equal.half(2));
    }

    private static void theHighestWordAtTheEnd() {
        Check.sentence("W must be 0 .. 255.");
        PoolAssembler x = Check.source(10, 0, 1, 0, 10, 1, 2, 0);
        Check.space(x, 507);
        Check.due("the second at 1024", 509 + 1 + 4, x.assemble());
        Check.due("its W", 18432 + 256 + 255, x.half(1));
        PoolAssembler y = Check.source(10, 0, 1, 0, 10, 1, 2, 0);
        Check.space(y, 508);
        Check.refuses("the second at 1028", y, 1);
    }

    private static void theHighestWordAtAPoolLine() {
        Check.sentence("W must be 0 .. 255.");
        PoolAssembler x = Check.source(10, 0, 1, 0, 10, 1, 2, 0);
        Check.space(x, 507);
        Check.add(x, 14, 0, 0, 0, 13, 40, 0, 0);
        Check.due("the second at 1024", 509 + 1 + 4 + 40, x.assemble());
        Check.due("its W", 18432 + 256 + 255, x.half(1));
        PoolAssembler y = Check.source(10, 0, 1, 0, 10, 1, 2, 0);
        Check.space(y, 508);
        Check.add(y, 14, 0, 0, 0, 13, 40, 0, 0);
        Check.refuses("the second at 1028", y, 1);
    }

    private static void theFirstLineOfSeveral() {
        Check.sentence("REFUSED is the first line, in the order of the lines");
        PoolAssembler x = Check.source(10, 0, 1, 0, 10, 1, 2, 0, 11, 0, 0, 0);
        Check.space(x, 600);
        Check.add(x, 11, 9, 0, 0);
        Check.refuses("W, then labels without lines", x, 1);
        PoolAssembler y = Check.source(11, 9, 0, 0, 10, 0, 1, 0, 10, 1, 2, 0);
        Check.space(y, 600);
        Check.refuses("a label without a line, then W", y, 0);
        PoolAssembler z = Check.source(14, 0, 0, 0, 12, 0, 0, 0, 10, 0, 1, 0, 10, 1, 2, 0, 10, 2, 3, 0, 12, 9, 0, 0);
        Check.space(z, 600);
        z.line(0, 0, 0, 0);
        Check.refuses("S, then W, then a label without a line", z, 1);
        PoolAssembler back = Check.source(0, 0, 0, 0);
        Check.space(back, 127);
        int line = back.line(12, 0, 0, 0);
        Check.add(back, 12, 0, 0, 0, 11, 1, 0, 0);
        Check.refuses("S, S, then a label without a line", back, line);
    }

    private static void theFirstAndTheLastLineOfAFullSource() {
        Check.sentence("REFUSED is the first line, in the order of the lines");
        PoolAssembler x = Check.source(11, 0, 0, 0);
        PoolAssembler y = new PoolAssembler();
        for (int i = 1; i < 160; i++) {
            x.line(11, 0, 0, 0);
            y.line(15, 0, 0, 0);
        }
        y.line(11, 0, 0, 0);
        Check.refuses("all 160", x, 0);
        Check.refuses("the last of 160", y, 159);
    }

    private static void noneRefused() {
        Check.sentence("NONE when it made an image, or there was none yet.");
        PoolAssembler x = new PoolAssembler();
        Check.due("of a new object", PoolAssembler.NONE, x.refused());
        x.line(11, 0, 0, 0);
        Check.due("before the first assemble", PoolAssembler.NONE, x.refused());
        x.line(0, 0, 0, 0);
        x.assemble();
        Check.due("behind an image", PoolAssembler.NONE, x.refused());
        PoolAssembler empty = new PoolAssembler();
        empty.assemble();
        Check.due("behind an image without halves", PoolAssembler.NONE, empty.refused());
    }

    private static void theLatestAssembleCounts() {
        Check.sentence("The line that the latest assemble refused");
        PoolAssembler x = Check.made(10, 2, 4096, 0, 15, 0, 0, 0);
        x.line(11, 0, 0, 0);
        Check.refuses("behind an image", x, 2);
        Check.refuses("again", x, 2);
        Check.due("behind a run", 1, x.run(9));
        Check.due("refused stays", 2, x.refused());
        x.restart();
        Check.due("refused stays behind restart", 2, x.refused());
        Check.dueThrow("a wrong line", IllegalArgumentException.class, () -> x.line(0, 16, 0, 0));
        Check.due("refused stays behind it", 2, x.refused());
        x.line(0, 0, 0, 0);
        Check.due("refused stays until the next assemble", 2, x.refused());
        Check.due("assemble", 6, x.assemble());
        Check.due("an image again", PoolAssembler.NONE, x.refused());
        Check.add(x, 15, 0, 0, 0, 12, 1, 0, 0);
        Check.refuses("another line", x, 5);
        Check.due("what the image has stays", 6, x.size());
    }
}
