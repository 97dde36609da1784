/** Promises 4 and 5: what is refused, and what stays then. */
public final class RefusedTest {
    public static void main(String[] args) {
        labelsWithoutLines();
        branchesForwards(11, 1023);
        branchesForwards(12, 127);
        branchesBackwards(11, 1024);
        branchesBackwards(12, 128);
        constantsOutOfReach();
        theFirstLineOfSeveral();
        whatStays();
        Check.end();
    }

    private static void labelsWithoutLines() {
        Check.refuses("a branch without a label", Check.source(1, 0, 0, 0, 11, 5, 0, 0, 0, 4, 0, 0), 1);
        Check.refuses("a branch if without a label", Check.source(12, 5, 0, 0, 0, 4, 0, 0), 0);
    }

    /** The label is S + 1 halves behind the branch. */
    private static void branchesForwards(int kind, int most) {
        for (int steps = most - 1; steps <= most + 1; steps++) {
            PoolAssembler x = Check.source(15, 0, 0, 0, kind, 0, 0, 0);
            Check.space(x, steps + 1);
            Check.add(x, 0, 0, 0, 0);
            String what = "kind " + kind + " by " + steps;
            if (steps > most) {
                Check.refuses(what, x, 1);
            } else {
                Check.due(what, steps + 3, x.assemble());
                Check.due(what + ": half", (kind == 11 ? 0xE000 : 0xD000) + steps, x.half(1) & 0xFFFF);
                Check.due(what + ": refused", -1, x.refused());
            }
        }
    }

    private static void branchesBackwards(int kind, int most) {
        for (int steps = most - 1; steps <= most + 1; steps++) {
            PoolAssembler x = Check.source(0, 0, 0, 0);
            Check.space(x, steps - 2);
            int line = x.line(kind, 0, 0, 0);
            String what = "kind " + kind + " by -" + steps;
            if (steps > most) {
                Check.refuses(what, x, line);
            } else {
                int want = kind == 11 ? 0xE000 + 2048 - steps : 0xD000 + 256 - steps;
                Check.due(what, steps - 1, x.assemble());
                Check.due(what + ": half", want, x.half(steps - 2) & 0xFFFF);
            }
        }
    }

    /** Each further constant is 4 behind the one before, but its load only 2: so the second is the first too far. */
    private static void constantsOutOfReach() {
        PoolAssembler x = Check.source(10, 0, 1, 0, 10, 1, 2, 0, 10, 2, 3, 0);
        Check.space(x, 600);
        Check.refuses("constants that came close together", x, 1);
        PoolAssembler y = Check.source(10, 0, 1, 0, 13, 1, 0, 0, 10, 1, 2, 0);
        Check.space(y, 600);
        Check.due("the second with a BASE 4 further", 3 + 600 + 1 + 4, y.assemble());
        Check.due("its W", 18432 + 256 + 255, y.half(2));
        PoolAssembler z = Check.source(10, 0, 1, 0, 10, 1, 1, 0, 10, 2, 1, 0);
        Check.space(z, 600);
        Check.due("equal constants", 3 + 600 + 1 + 2, z.assemble());
        PoolAssembler early = Check.source(10, 0, 1, 0, 10, 1, 2, 0, 10, 2, 3, 0);
        Check.space(early, 500);
        Check.add(early, 14, 0, 0, 0);
        Check.space(early, 100);
        Check.due("a pool in time", 3 + 500 + 1 + 6 + 100, early.assemble());
    }

    private static void theFirstLineOfSeveral() {
        PoolAssembler x = Check.source(10, 0, 1, 0, 10, 1, 2, 0, 11, 0, 0, 0);
        Check.space(x, 600);
        Check.add(x, 11, 9, 0, 0);
        Check.refuses("a constant before branches", x, 1);
        PoolAssembler y = Check.source(11, 9, 0, 0, 10, 0, 1, 0, 10, 1, 2, 0);
        Check.space(y, 600);
        Check.refuses("a branch before a constant", y, 0);
    }

    private static void whatStays() {
        PoolAssembler x = Check.source(10, 2, 4096, 0, 8, 2, 2, 1, 4, 3, 1, 0, 15, 0, 0, 0);
        Check.due("assemble", 6, x.assemble());
        Check.due("run", 0, x.run(3));
        x.line(11, 0, 0, 0);
        Check.refuses("a line more", x, 4);
        Check.dueHalves("the image stays", x, 18432 + 512 + 1, 0x6000 + 64 + 16 + 2, 0x3B01, 0xBE00, 4096, 0);
        Check.due("pools stay", 1, x.pools());
        Check.due("registers stay", 4096, x.register(2));
        Check.due("registers stay", -1, x.register(3));
        Check.due("the place stays", 6, x.register(8));
        Check.due("the flags stay", 8, x.register(9));
        Check.due("the data stays", 4096, x.data(1));
        Check.due("the run goes on", 1, x.run(1));
        Check.refuses("again", x, 4);
        Check.due("the end stays", 1, x.run(1));
        x.restart();
        Check.due("refused stays after restart", 4, x.refused());
        Check.dueThrow("a wrong line", IllegalArgumentException.class, () -> x.line(0, 16, 0, 0));
        Check.due("the label", 5, x.line(0, 0, 0, 0));
        Check.due("refused before the next assemble", 4, x.refused());
        Check.due("assemble", 8, x.assemble());
        Check.due("refused", -1, x.refused());
    }
}
