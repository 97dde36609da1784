/** Promises 4 and 8: the pools. */
public final class PoolTest {
    private static final int NOTHING = 18112;
    private static final int HALT = 48640;

    public static void main(String[] args) {
        noPoolWithoutAConstant();
        atALine();
        behindTheLastLine();
        noBranchBehindBranchOrHalt();
        aBranchBehindEveryOtherKind();
        theLastHalfBeforeCounts();
        nothingIfTheAddressIsNoMultipleOfFour();
        eachDifferentConstantOnce();
        theLowerBitsFirst();
        theBaseOfALoad();
        inTheLastMoment();
        notBeforeTheLastMoment();
        inTheLastMomentBeforeEveryKind();
        aConstantThatComesTooLate();
        theOldestThatWaits();
        theBiggestPool();
        theMostPools();
        poolsOfTheImageAlone();
        Check.end();
    }

    private static PoolAssembler image(String what, int pools, int[] halves, int... numbers) {
        PoolAssembler x = Check.source(numbers);
        Check.due(what + ": assemble", halves.length, x.assemble());
        Check.due(what + ": pools", pools, x.pools());
        Check.dueHalves(what, x, halves);
        return x;
    }

    private static int[] halves(int... values) {
        return values;
    }

    private static void dueHalf(String what, int want, PoolAssembler x, int k) {
        Check.due(what + ": half " + k, want, x.half(k) & 0xFFFF);
    }

    private static void noPoolWithoutAConstant() {
        Check.sentence("A pool is put if constants wait");
        image("no lines", 0, halves());
        image("POOL alone", 0, halves(), 14, 0, 0, 0, 14, 0, 0, 0);
        image("POOL between", 0, halves(NOTHING, HALT),
            14, 0, 0, 0, 13, 1, 0, 0, 14, 0, 0, 0, 15, 0, 0, 0, 14, 0, 0, 0);
        PoolAssembler x = new PoolAssembler();
        Check.space(x, 6400);
        x.assemble();
        Check.due("the longest source", 0, x.pools());
    }

    private static void atALine() {
        Check.sentence("at a line 14");
        image("POOL behind POOL", 1, halves(18432, 0xE001, 7, 0, HALT),
            10, 0, 7, 0, 14, 0, 0, 0, 14, 0, 0, 0, 15, 0, 0, 0, 14, 0, 0, 0);
        PoolAssembler x = image("two pools", 2, halves(18432, 0xE001, 7, 0, 18432, 0xE001, 7, 0, HALT),
            14, 0, 0, 0, 10, 0, 7, 0, 14, 0, 0, 0, 14, 0, 0, 0, 10, 0, 7, 0, 14, 0, 0, 0, 15, 0, 0, 0, 14, 0, 0, 0);
        Check.due("the run goes over both", 1, x.run(5));
        Check.due("its place", 16, x.register(8));
    }

    private static void behindTheLastLine() {
        Check.sentence("behind the last line");
        image("a constant alone", 1, halves(18432 + 768, 0xE001, 0x5678, 0x1234), 10, 3, 0x12345678, 0);
        image("POOL as the last line: no other behind it", 1, halves(18432, 0xE001, 7, 0), 10, 0, 7, 0, 14, 0, 0, 0);
        image("a label as the last line", 1, halves(18432, 0xE001, 7, 0), 10, 0, 7, 0, 0, 0, 0, 0);
    }

    private static void noBranchBehindBranchOrHalt() {
        Check.sentence("but not if the last half before is of a line 11 or 15");
        image("HALT, at the end", 1, halves(18432, HALT, 9, 0), 10, 0, 9, 0, 15, 0, 0, 0);
        image("HALT, at POOL", 1, halves(18432, HALT, 9, 0, NOTHING),
            10, 0, 9, 0, 15, 0, 0, 0, 14, 0, 0, 0, 13, 1, 0, 0);
        image("BRANCH, at the end", 1, halves(18432, 0xE7FD, 9, 0), 0, 1, 0, 0, 10, 0, 9, 0, 11, 1, 0, 0);
        image("BRANCH, at POOL", 1, halves(18432, 0xE7FD, 9, 0, NOTHING),
            0, 1, 0, 0, 10, 0, 9, 0, 11, 1, 0, 0, 14, 0, 0, 0, 13, 1, 0, 0);
    }

    /** CONSTANT, a line of the kind at 2, and POOL: the branch at 4, NOTHING at 6, the constant at 8, HALT at 12. */
    private static void aBranchBehindEveryOtherKind() {
        Check.sentence("first a branch (as of line 11) to the address behind the pool");
        for (int kind = 1; kind <= 13; kind++) {
            if (kind != 11) {
                PoolAssembler x = Check.made(0, 0, 0, 0, 10, 0, 9, 0,
                    kind, kind == 13 ? 1 : 0, kind == 10 ? 9 : 0, 0, 14, 0, 0, 0, 15, 0, 0, 0);
                String what = "behind kind " + kind;
                Check.due(what + ": size", 7, x.size());
                dueHalf(what, 18433, x, 0);
                dueHalf(what, 0xE002, x, 2);
                dueHalf(what, NOTHING, x, 3);
                dueHalf(what, 9, x, 4);
                dueHalf(what, HALT, x, 6);
            }
        }
    }

    private static void theLastHalfBeforeCounts() {
        Check.sentence("but not if the last half before is of a line 11 or 15");
        image("HALT, a label, POOL", 1, halves(18432, HALT, 9, 0), 10, 0, 9, 0, 15, 0, 0, 0, 0, 2, 0, 0, 14, 0, 0, 0);
        image("BRANCH, its label", 1, halves(18432, 0xE001, 9, 0), 10, 0, 9, 0, 11, 2, 0, 0, 0, 2, 0, 0);
        image("HALT, SPACE", 1, halves(18433, HALT, NOTHING, 0xE001, 9, 0), 10, 0, 9, 0, 15, 0, 0, 0, 13, 1, 0, 0);
        image("BRANCH, MOVE", 1, halves(18433, 0xE7FF, 0x2000, 0xE001, 9, 0),
            10, 0, 9, 0, 11, 1, 0, 0, 0, 1, 0, 0, 1, 0, 0, 0);
        image("HALT, CONSTANT", 1, halves(HALT, 18433, 0xE002, NOTHING, 9, 0), 15, 0, 0, 0, 10, 0, 9, 0);
    }

    private static void nothingIfTheAddressIsNoMultipleOfFour() {
        Check.sentence("then a half 18112, if the address is no multiple of 4 now");
        image("a branch to 2", 1, halves(18432, 0xE001, 9, 0), 10, 0, 9, 0);
        image("a branch to 4", 1, halves(NOTHING, 18433, 0xE002, NOTHING, 9, 0), 13, 1, 0, 0, 10, 0, 9, 0);
        image("a branch to 6", 1, halves(NOTHING, NOTHING, 18432, 0xE001, 9, 0), 13, 2, 0, 0, 10, 0, 9, 0);
        image("HALT to 2", 1, halves(18432, HALT, 9, 0), 10, 0, 9, 0, 15, 0, 0, 0);
        image("HALT to 4", 1, halves(NOTHING, 18433, HALT, NOTHING, 9, 0), 13, 1, 0, 0, 10, 0, 9, 0, 15, 0, 0, 0);
    }

    private static void eachDifferentConstantOnce() {
        Check.sentence("then each different constant that waits, once, in the order in which they first came");
        image("equal constants", 2,
            halves(18432 + 2, 18432 + 256 + 3, 18432 + 512 + 1, 18432 + 768 + 3, 18432 + 1024 + 1, HALT,
                5, 0, 0xFFFF, 0xFFFF, 6, 0, 18432 + 1280, 0xE001, 5, 0),
            10, 0, 5, 0, 10, 1, -1, 0, 10, 2, 5, 99, 10, 3, 6, 0, 10, 4, -1, 0, 15, 0, 0, 0, 14, 0, 0, 0, 10, 5, 5, 0);
        image("constants with an equal half", 1,
            halves(18432 + 1, 18432 + 2, 18432 + 2, HALT, 0xFFFF, 0, 0xFFFF, 0xFFFF, 0, 0xFFFF),
            10, 0, 65535, 0, 10, 0, -1, 0, 10, 0, -65536, 0, 15, 0, 0, 0);
    }

    private static void theLowerBitsFirst() {
        Check.sentence("as two halves, the lower 16 bits first");
        PoolAssembler x = image("four constants", 1,
            halves(18432 + 2, 18432 + 256 + 3, 18432 + 512 + 3, 18432 + 768 + 4, 0xE008, NOTHING,
                0x8765, 0x1234, 0, 0x8000, 0, 0xFFFF, 0x8000, 0),
            10, 0, 0x12348765, 0, 10, 1, Check.LOW, 0, 10, 2, -65536, 0, 10, 3, 32768, 0);
        Check.due("run", 0, x.run(5));
        Check.due("register 0", 0x12348765, x.register(0));
        Check.due("register 1", Check.LOW, x.register(1));
        Check.due("register 2", -65536, x.register(2));
        Check.due("register 3", 32768, x.register(3));
        Check.due("the place", 28, x.register(8));
    }

    private static void theBaseOfALoad() {
        Check.sentence("BASE is the address of its half + 4, less 2 if that is no multiple of 4");
        PoolAssembler x = image("loads at 0, 2, 4 and 6 of the constant at 12", 1,
            halves(18432 + 2, 18432 + 256 + 2, 18432 + 512 + 1, 18432 + 768 + 1, 0xE002, NOTHING, 9, 0),
            10, 0, 9, 0, 10, 1, 9, 0, 10, 2, 9, 0, 10, 3, 9, 0);
        Check.due("run", 0, x.run(4));
        for (int r = 0; r < 4; r++) {
            Check.due("register " + r, 9, x.register(r));
        }
    }

    /** F - BASE is 1020 for the half at 1020, if the CONSTANT is at 0 or 2: so the pool is before the one at 1022. */
    private static void inTheLastMoment() {
        Check.sentence("before a half of a line, if F - BASE is above 1020");
        for (int before = 0; before <= 3; before++) {
            PoolAssembler x = new PoolAssembler();
            if (before > 0) {
                x.line(13, before, 0, 0);
            }
            x.line(10, 0, 77, 0);
            Check.space(x, 600);
            int last = before % 2 == 0 ? before + 510 : before + 509;
            String what = before + " halves before";
            Check.due(what + ": assemble", before + 1 + 3 + 600, x.assemble());
            Check.due(what + ": pools", 1, x.pools());
            dueHalf(what + ", W", 18432 + 255, x, before);
            dueHalf(what + ", the last before the pool", NOTHING, x, last);
            dueHalf(what + ", the branch", 0xE001, x, last + 1);
            dueHalf(what + ", the constant", 77, x, last + 2);
            dueHalf(what + ", behind the pool", NOTHING, x, last + 4);
            Check.due(what + ": run", 0, x.run(before + 1 + 600 + 1));
            Check.due(what + ": place", 2 * x.size(), x.register(8));
            Check.due(what + ": the constant loaded", 77, x.register(0));
        }
    }

    /** The pool is put behind the last line then: with one half less, it is one half earlier. */
    private static void notBeforeTheLastMoment() {
        Check.sentence("behind the last line");
        PoolAssembler x = Check.source(10, 0, 77, 0);
        Check.space(x, 510);
        Check.due("to 1022: assemble", 511 + 3, x.assemble());
        dueHalf("to 1022", 0xE001, x, 511);
        PoolAssembler y = Check.source(10, 0, 77, 0);
        Check.space(y, 509);
        Check.due("to 1020: assemble", 510 + 4, y.assemble());
        dueHalf("to 1020", 0xE002, y, 510);
        dueHalf("to 1020", NOTHING, y, 511);
        PoolAssembler z = Check.source(10, 0, 77, 0);
        Check.space(z, 508);
        Check.due("to 1018: assemble", 509 + 3, z.assemble());
        dueHalf("to 1018", 0xE001, z, 509);
        dueHalf("to 1018, W", 18432 + 254, z, 0);
    }

    /** A line of the kind at 1022 has the pool before it, one at 1020 behind it. */
    private static void inTheLastMomentBeforeEveryKind() {
        Check.sentence("before a half of a line, if F - BASE is above 1020");
        int[] made = {0, 0x2000, 0x2800, 0x3000, 0x3800, 0x1800, 0x1A00, 0x4000, 0x6000, 0x6800, 0x4800, 0xE7FE,
            0xD0FE, NOTHING, 0, HALT};
        for (int kind = 1; kind <= 15; kind++) {
            if (kind != 14) {
                int a = kind == 13 ? 1 : 0;
                int b = kind == 10 ? 77 : 0;
                PoolAssembler late = Check.source(10, 0, 77, 0);
                Check.space(late, 510);
                Check.add(late, 0, 0, 0, 0, kind, a, b, 0);
                late.assemble();
                dueHalf("kind " + kind + " at 1022", 0xE001, late, 511);
                dueHalf("kind " + kind + " at 1022", 77, late, 512);
                dueHalf("kind " + kind + " at 1022", made[kind], late, 514);
                PoolAssembler early = Check.source(10, 0, 77, 0);
                Check.space(early, 509);
                Check.add(early, 0, 0, 0, 0, kind, a, b, 0, 13, 1, 0, 0);
                early.assemble();
                dueHalf("kind " + kind + " at 1020", made[kind], early, 510);
                dueHalf("kind " + kind + " at 1020", kind == 11 || kind == 15 ? NOTHING : 0xE001, early, 511);
                dueHalf("kind " + kind + " at 1020", 77, early, 512);
                dueHalf("kind " + kind + " at 1020", NOTHING, early, 514);
                Check.due("kind " + kind + " at 1020: size", 515, early.size());
            }
        }
    }

    private static void aConstantThatComesTooLate() {
        Check.sentence("A CONSTANT waits from its half on until a pool is put.");
        for (int value = 77; value <= 78; value++) {
            PoolAssembler x = Check.source(10, 0, 77, 0);
            Check.space(x, 510);
            Check.add(x, 10, 1, value, 0, 15, 0, 0, 0);
            Check.due("the first pool is before it: assemble", 511 + 3 + 2 + 2, x.assemble());
            Check.due("it has a pool of its own", 2, x.pools());
            dueHalf("the first pool has one constant", 0xE001, x, 511);
            dueHalf("its W", 18432 + 256, x, 514);
            dueHalf("its constant", value, x, 516);
        }
    }

    private static void theOldestThatWaits() {
        Check.sentence("for the BASE of the oldest line 10 that waits");
        PoolAssembler x = Check.source(10, 0, 1, 0, 14, 0, 0, 0);
        Check.space(x, 300);
        x.line(10, 1, 2, 0);
        Check.space(x, 600);
        Check.due("the first waits no more: assemble", 4 + 300 + 1 + 600 + 3, x.assemble());
        Check.due("pools", 2, x.pools());
        dueHalf("the second's W", 18432 + 256 + 255, x, 304);
        dueHalf("the second's pool", 0xE001, x, 815);
        PoolAssembler equal = Check.source(10, 0, 1, 0);
        Check.space(equal, 300);
        equal.line(10, 1, 1, 0);
        Check.space(equal, 600);
        Check.due("an equal one is younger: assemble", 1 + 300 + 1 + 600 + 3, equal.assemble());
        dueHalf("the pool", 0xE001, equal, 511);
        dueHalf("the first W", 18432 + 255, equal, 0);
        dueHalf("the second W", 18432 + 256 + 105, equal, 301);
        PoolAssembler other = Check.source(10, 0, 1, 0);
        Check.space(other, 300);
        other.line(10, 1, 2, 0);
        Check.space(other, 600);
        Check.due("another one is younger: assemble", 1 + 300 + 1 + 600 + 5, other.assemble());
        dueHalf("the pool", 0xE003, other, 511);
        dueHalf("the first W", 18432 + 255, other, 0);
        dueHalf("the second W", 18432 + 256 + 106, other, 301);
    }

    private static void theBiggestPool() {
        Check.sentence("then each different constant that waits, once, in the order in which they first came");
        PoolAssembler x = new PoolAssembler();
        for (int i = 0; i < 160; i++) {
            x.line(10, i % 8, i * 65537, 0);
        }
        Check.due("160 constants: assemble", 160 + 2 + 320, x.assemble());
        Check.due("pools", 1, x.pools());
        dueHalf("the branch", 0xE000 + 320, x, 160);
        dueHalf("NOTHING", NOTHING, x, 161);
        dueHalf("the last constant", 159, x, 481);
        dueHalf("the first W", 18432 + 80, x, 0);
        dueHalf("the last W", 18432 + 7 * 256 + 160, x, 159);
        Check.due("run", 0, x.run(161));
        Check.due("the last one loaded", 159 * 65537, x.register(7));
        Check.due("the place", 964, x.register(8));
        PoolAssembler equal = new PoolAssembler();
        for (int i = 0; i < 160; i++) {
            equal.line(10, i % 8, -5, 0);
        }
        Check.due("160 equal constants: assemble", 160 + 2 + 2, equal.assemble());
    }

    private static void theMostPools() {
        Check.sentence("How many pools the image has.");
        PoolAssembler x = new PoolAssembler();
        for (int i = 0; i < 80; i++) {
            x.line(10, 0, 1, 0);
            x.line(14, 0, 0, 0);
        }
        Check.due("80 pools: assemble", 320, x.assemble());
        Check.due("80 pools: pools", 80, x.pools());
    }

    private static void poolsOfTheImageAlone() {
        Check.sentence("How many pools the image has.");
        PoolAssembler x = Check.source(10, 0, 1, 0);
        Check.due("before assemble", 0, x.pools());
        x.assemble();
        Check.due("behind assemble", 1, x.pools());
        x.assemble();
        Check.due("behind assemble again", 1, x.pools());
        Check.add(x, 14, 0, 0, 0, 10, 0, 1, 0, 11, 0, 0, 0);
        Check.due("with more lines", 1, x.pools());
        Check.refuses("no label", x, 3);
        Check.due("behind a refused assemble", 1, x.pools());
        x.clear();
        Check.due("behind clear", 1, x.pools());
        x.restart();
        Check.due("behind restart", 1, x.pools());
        x.assemble();
        Check.due("of no lines", 0, x.pools());
    }
}
