/** Promise 4: S of branches, and the addresses of labels. */
public final class LabelTest {
    private static final int NOTHING = 18112;
    private static final int HALT = 48640;

    public static void main(String[] args) {
        branchesOfBothKinds();
        stepsAroundABranch();
        stepsAroundABranchIf();
        labelsBeforeEveryKind();
        labelsBeforeLinesWithoutHalves();
        labelsBeforeAPoolAtALine();
        labelsBeforeAPoolThatIsDue();
        labelsAtTheEnd();
        labelsAtTheEndBeforeTheLastPool();
        Check.end();
    }

    private static void branchesOfBothKinds() {
        Check.sentence("S is (address of the label - address of the branch - 4) / 2");
        PoolAssembler x = Check.source(
            11, 1, 0, 0,     // at 0 to 8
            0, 0, 0, 0,      // 2
            0, 2, 0, 0,      // 2, too
            12, 0, 0, 13,    // at 2 to 2
            12, 2, 0, 0,     // at 4 to 2
            12, 3, 0, 11,    // at 6 to the end, 12
            0, 1, 0, 0,
            14, 0, 0, 0,
            11, 15, 0, 0,    // at 8 to 10
            0, 15, 0, 0,
            11, 0, 0, 0,     // at 10 to 2
            0, 3, 0, 0);
        Check.due("assemble", 6, x.assemble());
        Check.dueHalves("branches", x, 0xE002, 0xDDFE, 0xD0FD, 0xDB01, 0xE7FF, 0xE7FA);
    }

    private static void stepsAroundABranch() {
        Check.sentence("11: 57344 + the lowest 11 bits of S.");
        Check.dueHalves("to itself", Check.made(0, 0, 0, 0, 11, 0, 0, 0), 0xE7FE);
        Check.dueHalves("to the next", Check.made(11, 0, 0, 0, 0, 0, 0, 0, 15, 0, 0, 0), 0xE7FF, HALT);
        Check.dueHalves("over one", Check.made(11, 0, 0, 0, 13, 1, 0, 0, 0, 0, 0, 0, 15, 0, 0, 0),
            0xE000, NOTHING, HALT);
    }

    private static void stepsAroundABranchIf() {
        Check.sentence("12: 53248 + 256 * c + the lowest 8 bits of S.");
        Check.dueHalves("to itself", Check.made(0, 0, 0, 0, 12, 0, 0, 5), 0xD5FE);
        Check.dueHalves("to the next", Check.made(12, 0, 0, 10, 0, 0, 0, 0, 15, 0, 0, 0), 0xDAFF, HALT);
        Check.dueHalves("over one", Check.made(12, 0, 0, 12, 13, 1, 0, 0, 0, 0, 0, 0, 15, 0, 0, 0),
            0xDC00, NOTHING, HALT);
    }

    private static void labelsBeforeEveryKind() {
        Check.sentence("The address of a label is that of the next half that a line makes behind it");
        for (int kind = 1; kind <= 15; kind++) {
            if (kind != 14) {
                PoolAssembler x = Check.made(11, 0, 0, 0, 13, 3, 0, 0, 0, 0, 0, 0, kind, kind == 13 ? 40 : 0, 0, 0);
                Check.due("a branch to a line of kind " + kind, 0xE002 - 65536, x.half(0));
            }
        }
    }

    private static void labelsBeforeLinesWithoutHalves() {
        Check.sentence("The address of a label is that of the next half that a line makes behind it");
        PoolAssembler x = Check.made(11, 0, 0, 0, 11, 1, 0, 0, 11, 2, 0, 0, 13, 1, 0, 0,
            0, 0, 0, 0, 0, 1, 0, 0, 14, 0, 0, 0, 0, 2, 0, 0, 14, 0, 0, 0, 1, 0, 1, 0);
        Check.dueHalves("three labels at one address", x, 0xE002, 0xE001, 0xE000, NOTHING, 0x2001);
    }

    private static void labelsBeforeAPoolAtALine() {
        Check.sentence("The address of a label is that of the next half that a line makes behind it");
        PoolAssembler x = Check.made(10, 0, 3, 0, 11, 1, 0, 0, 0, 1, 0, 0, 14, 0, 0, 0, 1, 0, 1, 0, 11, 1, 0, 0);
        Check.dueHalves("a label before POOL", x, 18432, 0xE001, 3, 0, 0x2001, 0xE7FD);
        x = Check.made(10, 0, 3, 0, 11, 1, 0, 0, 14, 0, 0, 0, 0, 1, 0, 0, 1, 0, 1, 0, 11, 1, 0, 0);
        Check.dueHalves("a label behind POOL", x, 18432, 0xE001, 3, 0, 0x2001, 0xE7FD);
        x = Check.made(10, 0, 3, 0, 0, 1, 0, 0, 14, 0, 0, 0, 11, 1, 0, 0);
        Check.dueHalves("the pool's branch is no half of a line", x, 18432, 0xE001, 3, 0, 0xE7FE);
    }

    /** The pool is due before the half 511, at 1022: see PoolTest. */
    private static void labelsBeforeAPoolThatIsDue() {
        Check.sentence("The address of a label is that of the next half that a line makes behind it");
        PoolAssembler x = Check.source(11, 1, 0, 0, 10, 0, 3, 0);
        Check.space(x, 509);
        Check.add(x, 0, 1, 0, 0, 13, 2, 0, 0);
        Check.due("the pool comes between the label and its half: assemble", 516, x.assemble());
        Check.due("the pool's branch", 0xE001 - 65536, x.half(511));
        Check.due("the label is behind the pool", 0xE000 + 512 - 65536, x.half(0));
        PoolAssembler y = Check.source(11, 1, 0, 0, 10, 0, 3, 0);
        Check.space(y, 508);
        Check.add(y, 0, 1, 0, 0, 13, 2, 0, 0);
        Check.due("the pool comes into the line behind the label: assemble", 515, y.assemble());
        Check.due("the pool's branch", 0xE001 - 65536, y.half(511));
        Check.due("the label is before the pool", 0xE000 + 508 - 65536, y.half(0));
    }

    private static void labelsAtTheEnd() {
        Check.sentence("that of the end, if none does");
        PoolAssembler x = Check.made(11, 0, 0, 0, 13, 2, 0, 0, 0, 0, 0, 0);
        Check.dueHalves("a label behind the last half", x, 0xE001, NOTHING, NOTHING);
        x = Check.made(11, 0, 0, 0, 12, 1, 0, 0, 0, 0, 0, 0, 14, 0, 0, 0, 0, 1, 0, 0, 14, 0, 0, 0);
        Check.dueHalves("labels and POOL lines behind it", x, 0xE000, 0xD0FF);
        Check.due("run to the end", 0, x.run(1));
        Check.due("the place", 4, x.register(8));
        Check.due("no half is there", 2, x.run(1));
        Check.due("labels alone", 0, Check.source(0, 0, 0, 0, 0, 15, 0, 0).assemble());
    }

    private static void labelsAtTheEndBeforeTheLastPool() {
        Check.sentence("that of the end, if none does");
        PoolAssembler x = Check.made(11, 1, 0, 0, 10, 0, 3, 0, 0, 1, 0, 0);
        Check.dueHalves("the pool behind the last line", x, 0xE004, 18433, 0xE002, NOTHING, 3, 0);
        x = Check.made(11, 1, 0, 0, 10, 0, 3, 0, 0, 1, 0, 0, 14, 0, 0, 0);
        Check.dueHalves("the pool at a last POOL", x, 0xE004, 18433, 0xE002, NOTHING, 3, 0);
        x = Check.made(11, 1, 0, 0, 10, 0, 3, 0, 15, 0, 0, 0, 0, 1, 0, 0);
        Check.dueHalves("a pool without a branch", x, 0xE004, 18433, HALT, NOTHING, 3, 0);
        Check.due("run to the end", 0, x.run(1));
        Check.due("the place", 12, x.register(8));
        Check.due("no half is there", 2, x.run(1));
    }
}
