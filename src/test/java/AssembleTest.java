/** Promises 4, 6 and 7: the halves that the lines make, without pools. */
public final class AssembleTest {
    public static void main(String[] args) {
        halvesOfEveryKind();
        spaceAndLinesWithoutHalves();
        branchesAndLabels();
        theImageIsMadeAnew();
        theBiggestImage();
        Check.end();
    }

    private static void half(String what, int want, int kind, int a, int b, int c) {
        PoolAssembler x = Check.source(kind, a, b, c);
        Check.due(what + ": assemble", 1, x.assemble());
        Check.dueHalves(what, x, want);
        Check.due(what + ": pools", 0, x.pools());
    }

    private static void halvesOfEveryKind() {
        half("MOVE", 0x2000, 1, 0, 0, 9);
        half("MOVE", 0x27FF, 1, 7, 255, -9);
        half("COMPARE", 0x2B64, 2, 3, 100, 0);
        half("ADD small", 0x3501, 3, 5, 1, 0);
        half("TAKE small", 0x38FF, 4, 0, 255, 0);
        half("TAKE small", 0x3FFF, 4, 7, 255, 0);
        half("ADD", 0x1800 + 3 * 64 + 2 * 8 + 1, 5, 1, 2, 3);
        half("ADD", 0x19FF, 5, 7, 7, 7);
        half("TAKE", 0x1A00 + 6 * 64 + 5 * 8 + 4, 6, 4, 5, 6);
        half("TAKE", 0x1BFF, 6, 7, 7, 7);
        half("AND", 0x4000 + 8 * 2 + 1, 7, 1, 2, 0);
        half("XOR", 0x4040, 7, 0, 0, 1);
        half("COMPARE", 0x4280 + 8 * 7 + 3, 7, 3, 7, 10);
        half("OR", 0x4300, 7, 0, 0, 12);
        half("MULTIPLY", 0x4340, 7, 0, 0, 13);
        half("CLEAR", 0x4380, 7, 0, 0, 14);
        half("NOT", 0x43FF, 7, 7, 7, 15);
        half("STORE", 0x6000 + 64 * 3 + 8 * 2 + 1, 8, 1, 2, 3);
        half("STORE", 0x67FF, 8, 7, 7, 31);
        half("LOAD", 0x6800 + 64 * 9 + 8 * 4 + 6, 9, 6, 4, 9);
        half("LOAD", 0x6FFF, 9, 7, 7, 31);
        half("HALT", 0xBE00, 15, 5, 6, 7);
    }

    private static void spaceAndLinesWithoutHalves() {
        PoolAssembler x = Check.source(14, 0, 0, 0, 13, 3, 0, 0, 0, 4, 0, 0, 15, 0, 0, 0, 14, 0, 0, 0);
        Check.due("assemble", 4, x.assemble());
        Check.dueHalves("space", x, 18112, 18112, 18112, 48640);
        Check.due("no pool without a constant", 0, x.pools());
        Check.due("half(-1)", 0, x.half(-1));
        Check.due("half(4)", 0, x.half(4));
        Check.due("half of the lowest int", 0, x.half(Integer.MIN_VALUE));
        Check.due("half of the highest int", 0, x.half(Integer.MAX_VALUE));
    }

    private static void branchesAndLabels() {
        PoolAssembler x = Check.source(
            11, 1, 0, 0,     // at 0 to 8
            0, 0, 0, 0,      // 2
            0, 2, 0, 0,      // 2, too
            12, 0, 0, 13,    // at 2 to 2
            12, 2, 0, 0,     // at 4 to 2
            12, 3, 0, 11,    // at 6 to the end, 12
            0, 1, 0, 0,
            14, 0, 0, 0,
            11, 15, 0, 0,    // at 8 to 10
            0, 15, 0, 0,
            11, 0, 0, 0,     // at 10 to 2
            0, 3, 0, 0);
        Check.due("assemble", 6, x.assemble());
        Check.dueHalves("branches", x, 0xE002, 0xDDFE, 0xD0FD, 0xDB01, 0xE7FF, 0xE7FA);
    }

    private static void theImageIsMadeAnew() {
        PoolAssembler x = Check.source(1, 1, 1, 0, 1, 2, 2, 0, 1, 3, 3, 0);
        Check.due("assemble", 3, x.assemble());
        Check.due("assemble again", 3, x.assemble());
        Check.add(x, 15, 0, 0, 0);
        Check.due("size before the next assemble", 3, x.size());
        Check.due("half before the next assemble", 0, x.half(3));
        Check.due("with a line more", 4, x.assemble());
        Check.dueHalves("the source stays", x, 0x2101, 0x2202, 0x2303, 0xBE00);
        x.clear();
        Check.add(x, 1, 4, 4, 0);
        Check.due("a shorter one", 1, x.assemble());
        Check.dueHalves("nothing of the image before is left", x, 0x2404);
    }

    private static void theBiggestImage() {
        PoolAssembler x = new PoolAssembler();
        Check.space(x, 6400);
        Check.due("assemble", 6400, x.assemble());
        Check.due("size", 6400, x.size());
        Check.due("the last half", 18112, x.half(6399));
        Check.due("behind it", 0, x.half(6400));
        Check.due("run", 0, x.run(5000));
        Check.due("run to the end", 0, x.run(1400));
        Check.due("place", 12800, x.register(8));
        Check.due("run beyond", 2, x.run(1));
    }
}
