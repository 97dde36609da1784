/** Promises 9, 10, 11 and 12: how runs go on and end, restart, and what can be seen. */
public final class RunTest {
    private static final Class<IllegalArgumentException> NOT_AS_SAID = IllegalArgumentException.class;

    public static void main(String[] args) {
        fuelWithinBounds();
        fuelBeyondBounds();
        atMostFuelInstructions();
        halts();
        theSameAgain();
        restartsInEveryState();
        restartOfEveryFlag();
        everyRegister();
        thePlace();
        theFlags();
        noSuchRegister();
        everyWordOfData();
        noSuchWord();
        Check.end();
    }

    private static void fuelWithinBounds() {
        Check.sentence("Goes on for at most fuel instructions.");
        PoolAssembler x = Check.made(0, 0, 0, 0, 3, 1, 1, 0, 11, 0, 0, 0);
        Check.due("run(1)", 0, x.run(1));
        Check.due("one instruction", 1, x.register(1));
        Check.due("the place", 2, x.register(8));
        Check.due("run(5000)", 0, x.run(5000));
        Check.due("5001 instructions", 2501, x.register(1));
        Check.due("the place", 2, x.register(8));
        Check.due("run(4999)", 0, x.run(4999));
        Check.due("10000 instructions", 5000, x.register(1));
        Check.due("the place", 0, x.register(8));
    }

    /** In every state: without an image, before, in and behind a run, with either end. */
    private static void fuelBeyondBounds() {
        Check.sentence("IllegalArgumentException when fuel is not 1 .. 5000.");
        PoolAssembler under = Check.made(4, 1, 1, 0, 10, 0, 4096, 0, 8, 0, 0, 3, 15, 0, 0, 0);
        PoolAssembler halted = Check.made(4, 1, 1, 0, 15, 0, 0, 0);
        PoolAssembler faulted = Check.made(4, 1, 1, 0, 8, 0, 0, 0);
        under.run(3);
        halted.run(9);
        faulted.run(9);
        PoolAssembler[] all = {new PoolAssembler(), Check.made(15, 0, 0, 0), under, halted, faulted};
        int[] answers = {2, 1, 1, 1, 2};
        for (int i = 0; i < all.length; i++) {
            PoolAssembler x = all[i];
            String before = Check.seen(x);
            for (int wrong : new int[] {0, -1, 5001, -5000, 65537, Check.LOW, Check.HIGH}) {
                Check.dueThrow("run(" + wrong + ")", NOT_AS_SAID, () -> x.run(wrong));
            }
            Check.dueSeen("behind the throws", before, Check.seen(x));
            Check.due("run(1) behind them", answers[i], x.run(1));
        }
    }

    private static void atMostFuelInstructions() {
        Check.sentence("Answers 0 when the run did not end");
        PoolAssembler x = Check.made(3, 1, 1, 0, 3, 1, 1, 0, 15, 0, 0, 0, 3, 1, 1, 0);
        Check.due("up to HALT", 0, x.run(2));
        Check.due("the place", 4, x.register(8));
        Check.due("HALT", 1, x.run(1));
        x.restart();
        Check.due("HALT is the last of the fuel", 1, x.run(3));
        PoolAssembler pool = Check.made(10, 0, 5, 0, 14, 0, 0, 0, 15, 0, 0, 0);
        Check.due("the pool's branch is an instruction, too", 0, pool.run(2));
        Check.due("the place", 8, pool.register(8));
        PoolAssembler end = Check.made(13, 1, 0, 0);
        Check.due("up to the end of the image", 0, end.run(1));
        Check.due("the fault is behind it", 2, end.run(1));
        PoolAssembler longest = new PoolAssembler();
        Check.space(longest, 4999);
        longest.line(15, 0, 0, 0);
        longest.assemble();
        Check.due("HALT is the last of 5000", 1, longest.run(5000));
        PoolAssembler longer = new PoolAssembler();
        Check.space(longer, 5000);
        longer.line(15, 0, 0, 0);
        longer.assemble();
        Check.due("HALT is behind 5000", 0, longer.run(5000));
        Check.due("the place", 10000, longer.register(8));
        Check.due("HALT", 1, longer.run(5000));
    }

    private static void halts() {
        Check.sentence("HALT ends the run (the place stays).");
        PoolAssembler first = Check.made(15, 0, 0, 0);
        Check.due("HALT alone", 1, first.run(1));
        Check.dueBeginning("all stays", first);
        PoolAssembler x = Check.made(4, 1, 1, 0, 15, 0, 0, 0, 3, 1, 1, 0, 15, 0, 0, 0);
        Check.due("run", 1, x.run(5000));
        Check.due("the place", 2, x.register(8));
        Check.due("the line behind is not done", -1, x.register(1));
        Check.due("the flags", 8, x.register(9));
    }

    private static void theSameAgain() {
        Check.sentence("the same again when it had ended");
        PoolAssembler halted = Check.made(4, 1, 1, 0, 15, 0, 0, 0, 3, 1, 1, 0);
        PoolAssembler faulted = Check.made(4, 1, 1, 0, 9, 1, 0, 0, 3, 1, 1, 0);
        PoolAssembler beyond = Check.made(4, 1, 1, 0);
        ended(halted, 1);
        ended(faulted, 2);
        ended(beyond, 2);
    }

    private static void ended(PoolAssembler x, int answer) {
        Check.due("run", answer, x.run(5000));
        String before = Check.seen(x);
        Check.due("run(1) again", answer, x.run(1));
        Check.due("run(5000) again", answer, x.run(5000));
        Check.dueSeen("nothing more is done", before, Check.seen(x));
        x.line(15, 0, 0, 0);
        Check.due("with a line more", answer, x.run(1));
    }

    private static void restartsInEveryState() {
        Check.sentence("The processor is at its beginning.");
        PoolAssembler none = new PoolAssembler();
        none.restart();
        Check.dueBeginning("a new object", none);
        Check.due("a fault without an image", 2, none.run(1));
        none.restart();
        Check.dueBeginning("behind that fault", none);
        PoolAssembler x = Check.made(10, 0, 4096, 0, 4, 1, 1, 0, 8, 1, 0, 31, 15, 0, 0, 0);
        Check.due("run", 0, x.run(3));
        Check.due("a word of data", -1, x.data(31));
        x.restart();
        Check.dueBeginning("behind a run that did not end", x);
        Check.dueHalves("the image stays", x, 18433, 0x3901, 0x67C1, 0xBE00, 4096, 0);
        Check.due("to HALT", 1, x.run(4));
        x.restart();
        Check.dueBeginning("behind HALT", x);
        Check.due("not ended any more", 0, x.run(3));
        Check.due("the same is done", -1, x.data(31));
        PoolAssembler fault = Check.made(4, 1, 1, 0, 9, 0, 0, 0);
        Check.due("a fault", 2, fault.run(2));
        fault.restart();
        Check.dueBeginning("behind a fault", fault);
        Check.due("not ended any more", 0, fault.run(1));
        Check.due("the fault again", 2, fault.run(1));
        fault.restart();
        fault.restart();
        Check.dueBeginning("twice", fault);
    }

    private static void restartOfEveryFlag() {
        Check.sentence("The processor is at its beginning.");
        PoolAssembler zcv = Check.made(10, 0, Check.LOW, 0, 5, 1, 0, 0, 15, 0, 0, 0);
        zcv.run(9);
        Check.due("Z, C and V", 7, zcv.register(9));
        zcv.restart();
        Check.due("no flags", 0, zcv.register(9));
        PoolAssembler n = Check.made(4, 0, 1, 0, 15, 0, 0, 0);
        n.run(9);
        Check.due("N", 8, n.register(9));
        n.restart();
        Check.due("no flags", 0, n.register(9));
    }

    private static void everyRegister() {
        Check.sentence("Register r (0 .. 7)");
        PoolAssembler x = new PoolAssembler();
        for (int r = 0; r < 8; r++) {
            x.line(1, r, 100 + r, 0);
        }
        x.assemble();
        for (int done = 1; done <= 8; done++) {
            x.run(1);
            for (int r = 0; r < 8; r++) {
                Check.due("register " + r + " behind " + done, r < done ? 100 + r : 0, x.register(r));
            }
        }
    }

    private static void thePlace() {
        Check.sentence("the place for 8");
        PoolAssembler x = Check.made(13, 2, 0, 0, 11, 0, 0, 0, 13, 5, 0, 0, 0, 0, 0, 0, 15, 0, 0, 0);
        int[] places = {2, 4, 16, 16};
        Check.due("at the beginning", 0, x.register(8));
        for (int place : places) {
            x.run(1);
            Check.due("the next place", place, x.register(8));
        }
    }

    /** Each flag with and without the others, as far as instructions can set them so. */
    private static void theFlags() {
        Check.sentence("8 * N + 4 * Z + 2 * C + V for 9");
        int[][] table = {{1, 1, 0}, {Check.HIGH, -1, 2}, {0, 0, 4}, {-1, 1, 6}, {Check.LOW, Check.LOW, 7}, {-1, 0, 8},
            {Check.HIGH, 1, 9}, {-1, -1, 10}, {Check.LOW, -1, 3}};
        for (int[] row : table) {
            PoolAssembler x = Check.made(10, 0, row[0], 0, 10, 1, row[1], 0, 5, 2, 0, 1, 15, 0, 0, 0);
            x.run(9);
            Check.due("flags of " + row[0] + " + " + row[1], row[2], x.register(9));
        }
    }

    private static void noSuchRegister() {
        Check.sentence("IllegalArgumentException for another r.");
        PoolAssembler halted = Check.made(4, 7, 1, 0, 15, 0, 0, 0);
        halted.run(9);
        for (PoolAssembler x : new PoolAssembler[] {new PoolAssembler(), halted}) {
            String before = Check.seen(x);
            Check.due("register(0), the first", 0, x.register(0));
            Check.due("register(9), the last", x == halted ? 8 : 0, x.register(9));
            for (int wrong : new int[] {-1, 10, 11, 16, -8, 256, 65536, Check.LOW, Check.HIGH}) {
                Check.dueThrow("register(" + wrong + ")", NOT_AS_SAID, () -> x.register(wrong));
            }
            Check.dueSeen("behind the throws", before, Check.seen(x));
        }
    }

    private static void everyWordOfData() {
        Check.sentence("Word k (0 .. 31) of the data");
        for (int k = 0; k < 32; k++) {
            PoolAssembler x = Check.made(10, 5, 4096, 0, 10, 6, -70000 - k, 0, 8, 6, 5, k, 9, 7, 5, k, 15, 0, 0, 0);
            Check.due("word " + k + ": run", 1, x.run(9));
            Check.due("word " + k + ": loaded", -70000 - k, x.register(7));
            Check.due("word " + k + ": no flags", 0, x.register(9));
            for (int other = 0; other < 32; other++) {
                Check.due("word " + other, other == k ? -70000 - k : 0, x.data(other));
            }
        }
    }

    private static void noSuchWord() {
        Check.sentence("0 when there is none");
        PoolAssembler x = new PoolAssembler();
        x.line(10, 0, 4096, 0);
        for (int k = 0; k < 32; k++) {
            x.line(8, 0, 0, k);
        }
        x.assemble();
        x.run(33);
        Check.due("data(0), the first", 4096, x.data(0));
        Check.due("data(31), the last", 4096, x.data(31));
        for (int k : new int[] {-1, 32, 33, -32, 64, 4096, 4220, 65536, Check.LOW, Check.HIGH}) {
            Check.due("data(" + k + ")", 0, x.data(k));
        }
    }
}
