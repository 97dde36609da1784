/** Promises 4 and 8: the pools. */
public final class PoolTest {
    private static final int NOTHING = 18112;
    private static final int HALT = 48640;

    public static void main(String[] args) {
        poolsBehindTheLastLine();
        poolsAtALine();
        noBranchBehindBranchOrHalt();
        equalConstantsOnce();
        labelsGoBehindPools();
        poolsInTheLastMoment();
        theBiggestPools();
        poolsCountedOnlyInTheImage();
        Check.end();
    }

    private static PoolAssembler image(String what, int pools, int halves, int... numbers) {
        PoolAssembler x = Check.source(numbers);
        Check.due(what + ": assemble", halves, x.assemble());
        Check.due(what + ": pools", pools, x.pools());
        return x;
    }

    private static void poolsBehindTheLastLine() {
        PoolAssembler x = image("a constant alone", 1, 4, 10, 3, 0x12345678, 0);
        Check.dueHalves("a constant alone", x, 18432 + 768, 0xE001, 0x5678, 0x1234);
        x = image("at 2, with NOTHING before the constants", 1, 6, 1, 0, 0, 0, 10, 1, -2, 0);
        Check.dueHalves("at 2", x, 0x2000, 18432 + 256 + 1, 0xE002, NOTHING, 0xFFFE, 0xFFFF);
        x = image("the highest bit of the lower half", 1, 4, 10, 0, 0x8000, 0);
        Check.dueHalves("the highest bit of the lower half", x, 18432, 0xE001, 0x8000, 0);
    }

    private static void poolsAtALine() {
        PoolAssembler x = image("two pools", 2, 9,
            14, 0, 0, 0, 10, 0, 7, 0, 14, 0, 0, 0, 14, 0, 0, 0, 10, 0, 7, 0, 14, 0, 0, 0, 15, 0, 0, 0, 14, 0, 0, 0);
        Check.dueHalves("two pools", x, 18432, 0xE001, 7, 0, 18432, 0xE001, 7, 0, HALT);
        Check.due("run", 1, x.run(5));
        Check.due("place", 16, x.register(8));
    }

    private static void noBranchBehindBranchOrHalt() {
        PoolAssembler x = image("behind HALT", 1, 4, 10, 0, 9, 0, 15, 0, 0, 0);
        Check.dueHalves("behind HALT", x, 18432, HALT, 9, 0);
        x = image("behind BRANCH, with NOTHING", 1, 6, 10, 0, 9, 0, 1, 0, 0, 0, 0, 1, 0, 0, 11, 1, 0, 0, 14, 0, 0, 0);
        Check.dueHalves("behind BRANCH", x, 18433, 0x2000, 0xE7FE, NOTHING, 9, 0);
        x = image("a label between", 1, 4, 10, 0, 9, 0, 15, 0, 0, 0, 0, 2, 0, 0);
        Check.dueHalves("a label between", x, 18432, HALT, 9, 0);
        x = image("behind BRANCH IF", 1, 6, 0, 1, 0, 0, 10, 0, 9, 0, 12, 1, 0, 0);
        Check.dueHalves("behind BRANCH IF", x, 18433, 0xD000 + 253, 0xE002, NOTHING, 9, 0);
        x = image("behind SPACE", 1, 6, 10, 0, 9, 0, 15, 0, 0, 0, 13, 1, 0, 0);
        Check.dueHalves("behind SPACE", x, 18433, HALT, NOTHING, 0xE001, 9, 0);
    }

    private static void equalConstantsOnce() {
        PoolAssembler x = image("equal constants", 2, 16,
            10, 0, 5, 0, 10, 1, -1, 0, 10, 2, 5, 99, 10, 3, 6, 0, 10, 4, -1, 0, 15, 0, 0, 0, 14, 0, 0, 0, 10, 5, 5, 0);
        Check.dueHalves("equal constants", x,
            18432 + 2, 18432 + 256 + 3, 18432 + 512 + 1, 18432 + 768 + 3, 18432 + 1024 + 1, HALT,
            5, 0, 0xFFFF, 0xFFFF, 6, 0,
            18432 + 1280, 0xE001, 5, 0);
    }

    private static void labelsGoBehindPools() {
        PoolAssembler x = image("a label before a pool at a line", 1, 6,
            10, 0, 3, 0, 11, 1, 0, 0, 0, 1, 0, 0, 14, 0, 0, 0, 1, 0, 1, 0, 11, 1, 0, 0);
        Check.dueHalves("a label before a pool", x, 18432, 0xE001, 3, 0, 0x2001, 0xE7FD);
        x = image("a label at the end, before the last pool", 1, 6, 11, 1, 0, 0, 10, 0, 3, 0, 0, 1, 0, 0);
        Check.dueHalves("a label at the end", x, 0xE004, 18433, 0xE002, NOTHING, 3, 0);
        PoolAssembler y = Check.source(11, 1, 0, 0, 10, 0, 3, 0);
        Check.space(y, 509);
        Check.add(y, 0, 1, 0, 0, 13, 2, 0, 0);
        Check.due("a label before a half that a pool comes before: assemble", 516, y.assemble());
        Check.due("the pool's branch", (short) 0xE001, y.half(511));
        Check.due("a label before a half that a pool comes before", (short) (0xE000 + 512), y.half(0));
        PoolAssembler z = Check.source(11, 1, 0, 0, 10, 0, 3, 0);
        Check.space(z, 508);
        Check.add(z, 0, 1, 0, 0, 13, 2, 0, 0);
        Check.due("a pool within the line behind a label: assemble", 515, z.assemble());
        Check.due("the pool's branch", (short) 0xE001, z.half(511));
        Check.due("a label before a line that a pool comes into", (short) (0xE000 + 508), z.half(0));
    }

    /** F - BASE is 1020 for the half at 1020, if the CONSTANT is at 0 or 2: so the pool is before the one at 1022. */
    private static void poolsInTheLastMoment() {
        for (int before = 0; before <= 3; before++) {
            PoolAssembler x = new PoolAssembler();
            if (before > 0) {
                x.line(13, before, 0, 0);
            }
            x.line(10, 0, 77, 0);
            Check.space(x, 600);
            int last = before % 2 == 0 ? before + 510 : before + 509;
            int pool = last + 1;
            x.assemble();
            Check.due(before + " before: pools", 1, x.pools());
            Check.due(before + " before: the last half before the pool", NOTHING, x.half(last));
            Check.due(before + " before: branch", (short) 0xE001, x.half(pool));
            Check.due(before + " before: constant", 77, x.half(pool + 1));
            Check.due(before + " before: behind the pool", NOTHING, x.half(pool + 3));
            Check.due(before + " before: W", 18432 + 255, x.half(before));
            Check.due(before + " before: size", before + 1 + 3 + 600, x.size());
        }
        PoolAssembler x = Check.source(10, 0, 77, 0);
        Check.space(x, 510);
        Check.due("no half more: assemble", 1 + 510 + 3, x.assemble());
        x = Check.source(10, 0, 77, 0);
        Check.space(x, 509);
        Check.add(x, 15, 0, 0, 0, 15, 0, 0, 0);
        Check.due("behind a HALT no branch, but NOTHING: assemble", 1 + 509 + 1 + 3 + 1, x.assemble());
        Check.due("NOTHING", NOTHING, x.half(511));
        Check.due("the constant", 77, x.half(512));
        x = Check.source(10, 0, 77, 0);
        Check.space(x, 510);
        Check.add(x, 10, 1, 78, 0, 15, 0, 0, 0);
        Check.due("a constant that comes too late: assemble", 1 + 510 + 3 + 1 + 1 + 2, x.assemble());
        Check.due("it has a pool of its own", 2, x.pools());
        Check.due("its W", 18432 + 256, x.half(514));
    }

    private static void theBiggestPools() {
        PoolAssembler x = new PoolAssembler();
        for (int i = 0; i < 160; i++) {
            x.line(10, i % 8, i * 65537, 0);
        }
        Check.due("160 constants: assemble", 160 + 2 + 320, x.assemble());
        Check.due("160 constants: pools", 1, x.pools());
        Check.due("branch", 0xE000 + 320, x.half(160) & 0xFFFF);
        Check.due("NOTHING", NOTHING, x.half(161));
        Check.due("the last one", 159, x.half(481));
        Check.due("the first W", 18432 + 80, x.half(0));
        Check.due("the last W", 18432 + 7 * 256 + (4 * 159 + 324 - 320) / 4, x.half(159));
        Check.due("run", 0, x.run(161));
        Check.due("register", 159 * 65537, x.register(7));
        Check.due("place", 964, x.register(8));
        PoolAssembler y = new PoolAssembler();
        for (int i = 0; i < 80; i++) {
            y.line(10, 0, 1, 0);
            y.line(14, 0, 0, 0);
        }
        Check.due("80 pools: assemble", 320, y.assemble());
        Check.due("80 pools: pools", 80, y.pools());
    }

    private static void poolsCountedOnlyInTheImage() {
        PoolAssembler x = Check.source(10, 0, 1, 0);
        Check.due("before assemble", 0, x.pools());
        x.assemble();
        Check.due("behind assemble", 1, x.pools());
        Check.add(x, 14, 0, 0, 0, 10, 0, 1, 0, 11, 0, 0, 0);
        Check.refuses("no label", x, 3);
        Check.due("behind a refused assemble", 1, x.pools());
        x.clear();
        Check.due("behind clear", 1, x.pools());
        x.assemble();
        Check.due("of no lines", 0, x.pools());
    }
}
