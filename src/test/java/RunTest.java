/** Promises 9, 10, 11 and 12: how runs go on and end, restart, and what can be seen. */
public final class RunTest {
    private static final Class<IllegalArgumentException> NOT_AS_SAID = IllegalArgumentException.class;

    public static void main(String[] args) {
        fuel();
        halts();
        faultsOfThePlace();
        faultsOfData();
        everyWordOfData();
        restarts();
        assembleBeginsAnew();
        whatCanBeSeen();
        Check.end();
    }

    private static PoolAssembler made(int... numbers) {
        PoolAssembler x = Check.source(numbers);
        x.assemble();
        return x;
    }

    private static void fuel() {
        PoolAssembler x = made(0, 0, 0, 0, 3, 1, 1, 0, 11, 0, 0, 0);
        for (int wrong : new int[] {0, -1, 5001, Integer.MIN_VALUE, Integer.MAX_VALUE}) {
            Check.dueThrow("run(" + wrong + ")", NOT_AS_SAID, () -> x.run(wrong));
        }
        Check.due("nothing is done", 0, x.register(1));
        Check.due("run(1)", 0, x.run(1));
        Check.due("one instruction", 1, x.register(1));
        Check.due("place", 2, x.register(8));
        Check.due("run(5000)", 0, x.run(5000));
        Check.due("5001 instructions", 2501, x.register(1));
        PoolAssembler halted = made(15, 0, 0, 0);
        halted.run(1);
        Check.dueThrow("run(0) behind the end", NOT_AS_SAID, () -> halted.run(0));
        Check.dueThrow("run(5001) behind the end", NOT_AS_SAID, () -> halted.run(5001));
        PoolAssembler none = new PoolAssembler();
        Check.dueThrow("run(0) without an image", NOT_AS_SAID, () -> none.run(0));
    }

    private static void halts() {
        PoolAssembler x = made(3, 1, 1, 0, 3, 1, 1, 0, 15, 0, 0, 0, 3, 1, 1, 0);
        Check.due("not to HALT", 0, x.run(2));
        Check.due("place", 4, x.register(8));
        Check.due("HALT", 1, x.run(1));
        Check.due("the place stays", 4, x.register(8));
        Check.due("again", 1, x.run(5000));
        Check.due("the place stays", 4, x.register(8));
        Check.due("nothing more is done", 2, x.register(1));
        x.restart();
        Check.due("HALT is the last of the fuel", 1, x.run(3));
    }

    private static void faultsOfThePlace() {
        PoolAssembler x = made(3, 1, 1, 0);
        Check.due("the last half", 0, x.run(1));
        Check.due("place", 2, x.register(8));
        Check.due("beyond", 2, x.run(1));
        Check.due("the place stays", 2, x.register(8));
        Check.due("again", 2, x.run(9));
        Check.due("nothing more is done", 1, x.register(1));
        PoolAssembler branch = made(11, 1, 0, 0, 13, 5, 0, 0, 0, 1, 0, 0);
        Check.due("a branch to the end", 0, branch.run(1));
        Check.due("its place", 12, branch.register(8));
        Check.due("a fault", 2, branch.run(1));
        PoolAssembler pool = made(10, 0, 5, 0);
        Check.due("over the last pool, to the end", 0, pool.run(2));
        Check.due("its place", 8, pool.register(8));
        Check.due("a fault", 2, pool.run(1));
    }

    private static void faultsOfData() {
        int[] bases = {0, 4095, 4097, 4098, 4099, 4092, 4224, -4, 4096 - 4 * 32, Integer.MIN_VALUE, Integer.MAX_VALUE,
            -4096, 1 << 16 | 4096};
        for (int base : bases) {
            for (int kind = 8; kind <= 9; kind++) {
                PoolAssembler x = made(1, 1, 3, 0, 4, 1, 4, 0, 10, 0, base, 0, kind, 1, 0, 0, 15, 0, 0, 0);
                String what = "kind " + kind + " at " + base;
                Check.due(what, 2, x.run(9));
                Check.due(what + ": the place stays", 6, x.register(8));
                Check.due(what + ": the register stays", -1, x.register(1));
                Check.due(what + ": the flags stay", 8, x.register(9));
                for (int k = 0; k < 32; k++) {
                    Check.due(what + ": data stays", 0, x.data(k));
                }
                Check.due(what + ": again", 2, x.run(1));
            }
        }
        PoolAssembler x = made(10, 0, 4100, 0, 8, 0, 0, 31, 15, 0, 0, 0);
        Check.due("a word behind the last", 2, x.run(9));
    }

    private static void everyWordOfData() {
        for (int k = 0; k < 32; k++) {
            PoolAssembler x = made(10, 5, 4096, 0, 10, 6, -70000 - k, 0, 8, 6, 5, k, 9, 7, 5, k, 15, 0, 0, 0);
            Check.due("word " + k + ": run", 1, x.run(9));
            Check.due("word " + k + ": loaded", -70000 - k, x.register(7));
            Check.due("word " + k + ": no flags", 0, x.register(9));
            for (int other = 0; other < 32; other++) {
                Check.due("word " + other, other == k ? -70000 - k : 0, x.data(other));
            }
        }
        PoolAssembler x = made(10, 5, 4220, 0, 8, 5, 5, 0, 10, 4, 4096 - 124, 0, 8, 4, 4, 31, 15, 0, 0, 0);
        Check.due("the first and the last word: run", 1, x.run(9));
        Check.due("the last word", 4220, x.data(31));
        Check.due("the first word, from a base below", 4096 - 124, x.data(0));
        for (int k : new int[] {-1, 32, 33, Integer.MIN_VALUE, Integer.MAX_VALUE, 4096}) {
            Check.due("data(" + k + ")", 0, x.data(k));
        }
    }

    private static void restarts() {
        PoolAssembler x = made(10, 0, 4096, 0, 4, 1, 1, 0, 8, 1, 0, 2, 15, 0, 0, 0);
        Check.due("run", 1, x.run(9));
        Check.due("flags", 8, x.register(9));
        Check.due("data", -1, x.data(2));
        x.restart();
        for (int r = 0; r <= 9; r++) {
            Check.due("register " + r + " after restart", 0, x.register(r));
        }
        Check.due("data after restart", 0, x.data(2));
        Check.due("size stays", 6, x.size());
        Check.due("run after restart", 0, x.run(3));
        Check.due("data", -1, x.data(2));
        Check.due("to its end", 1, x.run(1));
        PoolAssembler fault = made(9, 0, 0, 0);
        Check.due("a fault", 2, fault.run(1));
        fault.restart();
        Check.due("the fault again", 2, fault.run(1));
        fault.restart();
        fault.restart();
        Check.due("the place", 0, fault.register(8));
        PoolAssembler flags = made(10, 0, 1 << 31, 0, 7, 1, 0, 12, 5, 2, 1, 0, 15, 0, 0, 0);
        flags.run(9);
        Check.due("Z, C and V", 7, flags.register(9));
        flags.restart();
        Check.due("no flags", 0, flags.register(9));
    }

    private static void assembleBeginsAnew() {
        PoolAssembler x = made(10, 0, 4096, 0, 8, 0, 0, 0, 2, 0, 0, 0, 15, 0, 0, 0);
        Check.due("run", 1, x.run(9));
        Check.due("flags", 2, x.register(9));
        x.assemble();
        for (int r = 0; r <= 9; r++) {
            Check.due("register " + r + " after assemble", 0, x.register(r));
        }
        Check.due("data after assemble", 0, x.data(0));
        Check.due("run after assemble", 1, x.run(9));
    }

    private static void whatCanBeSeen() {
        PoolAssembler x = new PoolAssembler();
        for (int r = 0; r < 8; r++) {
            x.line(1, r, 100 + r, 0);
        }
        x.assemble();
        x.run(8);
        for (int r = 0; r < 8; r++) {
            Check.due("register " + r, 100 + r, x.register(r));
        }
        Check.due("the place", 16, x.register(8));
        Check.due("the flags", 0, x.register(9));
        for (int wrong : new int[] {-1, 10, 11, Integer.MIN_VALUE, Integer.MAX_VALUE}) {
            Check.dueThrow("register(" + wrong + ")", NOT_AS_SAID, () -> x.register(wrong));
        }
    }
}
