/** Promises 9 and 11: what each instruction does to registers and flags, and when branches go. */
public final class InstructionTest {
    private static final int LOW = Check.LOW;
    private static final int HIGH = Check.HIGH;
    private static final int N = 8;
    private static final int Z = 4;
    private static final int C = 2;
    private static final int V = 1;

    public static void main(String[] args) {
        signAndZero();
        carryOfSums();
        carryOfDifferences();
        overflowOfSums();
        overflowOfDifferences();
        lowestBitsOfProducts();
        sums();
        differences();
        smallNumbers();
        works();
        flagsThatStay();
        registersThatAreTheSame();
        conditions();
        storesAndLoads();
        constants();
        branches();
        branchesToTheFarthest();
        countingDown();
        Check.end();
    }

    /** Registers 1 and 2 are x and y; then the line; answers the object behind it. */
    private static PoolAssembler after(int x, int y, int kind, int a, int b, int c) {
        PoolAssembler p = Check.source(10, 1, x, 0, 10, 2, y, 0, kind, a, b, c, 15, 0, 0, 0);
        p.assemble();
        Check.due("run of kind " + kind, 1, p.run(9));
        Check.due("place", 6, p.register(8));
        return p;
    }

    private static void due(String what, PoolAssembler p, int register, int value, int flags) {
        Check.due(what, value, p.register(register));
        Check.due(what + ": flags", flags, p.register(9));
    }

    private static void signAndZero() {
        Check.sentence("N is the result's sign, Z whether it is 0.");
        due("-1", after(-2, 1, 5, 3, 1, 2), 3, -1, N);
        due("0", after(0, 0, 5, 3, 1, 2), 3, 0, Z);
        due("1", after(0, 1, 5, 3, 1, 2), 3, 1, 0);
        due("the lowest", after(LOW, 0, 5, 3, 1, 2), 3, LOW, N);
        due("the highest", after(HIGH, 0, 5, 3, 1, 2), 3, HIGH, 0);
    }

    private static void carryOfSums() {
        Check.sentence("C when a sum of unsigned numbers goes beyond 32 bits");
        due("the highest of 32 bits and 0", after(-1, 0, 5, 3, 1, 2), 3, -1, N);
        due("the highest of 32 bits and 1", after(-1, 1, 5, 3, 1, 2), 3, 0, Z + C);
        due("up to the highest", after(-256, 0, 3, 1, 255, 0), 1, -1, N);
        due("one beyond the highest", after(-255, 0, 3, 1, 255, 0), 1, 0, Z + C);
        due("the highest twice", after(-1, -1, 5, 3, 1, 2), 3, -2, N + C);
    }

    private static void carryOfDifferences() {
        Check.sentence("or when in a difference of unsigned numbers the first is not below the second");
        due("one below", after(4, 5, 6, 3, 1, 2), 3, -1, N);
        due("equal", after(5, 5, 6, 3, 1, 2), 3, 0, Z + C);
        due("one above", after(6, 5, 6, 3, 1, 2), 3, 1, C);
        due("a small number one above", after(254, 0, 4, 1, 255, 0), 1, -1, N);
        due("a small number equal", after(255, 0, 4, 1, 255, 0), 1, 0, Z + C);
        due("the highest bit is a number's, no sign", after(LOW, HIGH, 7, 1, 2, 10), 1, LOW, C + V);
        due("the highest bit is a number's, no sign", after(HIGH, LOW, 7, 1, 2, 10), 1, HIGH, N + V);
        due("0 less the highest of 32 bits", after(0, -1, 6, 3, 1, 2), 3, 1, 0);
    }

    private static void overflowOfSums() {
        Check.sentence("V when the signed result is none of 32 bits");
        due("up to the highest", after(HIGH - 255, 0, 3, 1, 255, 0), 1, HIGH, 0);
        due("one beyond the highest", after(HIGH - 254, 0, 3, 1, 255, 0), 1, LOW, N + V);
        due("down to the lowest", after(LOW + 1, -1, 5, 3, 1, 2), 3, LOW, N + C);
        due("one beyond the lowest", after(LOW, -1, 5, 3, 1, 2), 3, HIGH, C + V);
    }

    private static void overflowOfDifferences() {
        Check.sentence("V when the signed result is none of 32 bits");
        due("down to the lowest", after(LOW + 255, 0, 4, 1, 255, 0), 1, LOW, N + C);
        due("one beyond the lowest", after(LOW + 254, 0, 4, 1, 255, 0), 1, HIGH, C + V);
        due("up to the highest", after(-1, LOW, 6, 3, 1, 2), 3, HIGH, C);
        due("one beyond the highest", after(0, LOW, 6, 3, 1, 2), 3, LOW, N + V);
        due("COMPARE, down to the lowest", after(LOW + 255, 0, 2, 1, 255, 0), 1, LOW + 255, N + C);
        due("COMPARE, one beyond the lowest", after(LOW + 254, 0, 2, 1, 255, 0), 1, LOW + 254, C + V);
    }

    private static void lowestBitsOfProducts() {
        Check.sentence("MULTIPLY: the lowest 32 bits");
        due("up to the highest", after(HIGH / 7, 7, 7, 1, 2, 13), 1, HIGH - 1, 0);
        due("beyond the highest", after(65536, 32768, 7, 1, 2, 13), 1, LOW, N);
        due("beyond 32 bits", after(65536, 65536, 7, 1, 2, 13), 1, 0, Z);
        due("beyond 32 bits by 1", after(65537, 65536, 7, 1, 2, 13), 1, 65536, 0);
        due("the lowest and -1", after(LOW, -1, 7, 1, 2, 13), 1, LOW, N);
        due("the highest twice", after(HIGH, HIGH, 7, 1, 2, 13), 1, 1, 0);
        due("-1 twice", after(-1, -1, 7, 1, 2, 13), 1, 1, 0);
    }

    private static void sums() {
        Check.sentence("ADD, TAKE and COMPARE set C and V, too");
        int[][] table = {{1, 2, 3, 0}, {0, 0, 0, Z}, {-1, 1, 0, Z + C}, {-1, -1, -2, N + C}, {HIGH, 1, LOW, N + V},
            {LOW, LOW, 0, Z + C + V}, {LOW, -1, HIGH, C + V}, {HIGH, HIGH, -2, N + V}, {LOW, HIGH, -1, N},
            {-5, 5, 0, Z + C}, {-5, 4, -1, N}, {HIGH, LOW, -1, N}, {0x55555555, 0x55555555, 0xAAAAAAAA, N + V}};
        for (int[] row : table) {
            due(row[0] + " + " + row[1], after(row[0], row[1], 5, 3, 1, 2), 3, row[2], row[3]);
        }
    }

    private static void differences() {
        Check.sentence("TAKE a, b, c is b - c. COMPARE sets flags by a - b.");
        int[][] table = {{3, 2, 1, C}, {2, 3, -1, N}, {0, 0, 0, Z + C}, {LOW, 1, HIGH, C + V}, {HIGH, -1, LOW, N + V},
            {0, LOW, LOW, N + V}, {-1, LOW, HIGH, C}, {LOW, LOW, 0, Z + C}, {-1, 1, -2, N + C}, {1, -1, 2, 0},
            {HIGH, LOW, -1, N + V}, {LOW, HIGH, 1, C + V}, {0, 1, -1, N}, {0xAAAAAAAA, 0x55555555, 0x55555555, C + V}};
        for (int[] row : table) {
            String what = row[0] + " - " + row[1];
            due(what, after(row[0], row[1], 6, 3, 1, 2), 3, row[2], row[3]);
            PoolAssembler p = after(row[0], row[1], 7, 1, 2, 10);
            due(what + " compared", p, 1, row[0], row[3]);
            due(what + " compared", p, 2, row[1], row[3]);
        }
    }

    private static void smallNumbers() {
        Check.sentence("The results of MOVE, ADD, TAKE and of line 7 but COMPARE go into register a");
        due("MOVE 0", after(9, 0, 1, 1, 0, 0), 1, 0, Z);
        due("MOVE 255", after(9, 0, 1, 1, 255, 0), 1, 255, 0);
        due("ADD 1", after(-1, 0, 3, 1, 1, 0), 1, 0, Z + C);
        due("ADD 255", after(HIGH, 0, 3, 1, 255, 0), 1, LOW + 254, N + V);
        due("ADD 128", after(0, 0, 3, 1, 128, 0), 1, 128, 0);
        due("TAKE 255", after(254, 0, 4, 1, 255, 0), 1, -1, N);
        due("TAKE 255", after(255, 0, 4, 1, 255, 0), 1, 0, Z + C);
        due("TAKE 1", after(LOW, 0, 4, 1, 1, 0), 1, HIGH, C + V);
        due("TAKE 0", after(0, 0, 4, 1, 0, 0), 1, 0, Z + C);
        due("COMPARE 255", after(254, 0, 2, 1, 255, 0), 1, 254, N);
        due("COMPARE 255", after(255, 0, 2, 1, 255, 0), 1, 255, Z + C);
        due("COMPARE 1", after(LOW, 0, 2, 1, 1, 0), 1, LOW, C + V);
        due("COMPARE 200", after(-1, 0, 2, 1, 200, 0), 1, -1, N + C);
    }

    private static void works() {
        Check.sentence("Line 7 has a and b");
        due("AND", after(0b1100, 0b1010, 7, 1, 2, 0), 1, 0b1000, 0);
        due("AND", after(0b0100, 0b1010, 7, 1, 2, 0), 1, 0, Z);
        due("AND", after(-1, LOW, 7, 1, 2, 0), 1, LOW, N);
        due("XOR", after(0b1100, 0b1010, 7, 1, 2, 1), 1, 0b0110, 0);
        due("XOR", after(-1, 1, 7, 1, 2, 1), 1, -2, N);
        due("XOR", after(7, 7, 7, 1, 2, 1), 1, 0, Z);
        due("OR", after(0b1100, 0b1010, 7, 1, 2, 12), 1, 0b1110, 0);
        due("OR", after(LOW, 1, 7, 1, 2, 12), 1, LOW + 1, N);
        due("MULTIPLY", after(7, -3, 7, 1, 2, 13), 1, -21, N);
        due("MULTIPLY", after(65536, 65536, 7, 1, 2, 13), 1, 0, Z);
        due("MULTIPLY", after(0x12345, 0x6789A, 7, 1, 2, 13), 1, (int) (0x12345L * 0x6789AL), 0);
        due("CLEAR", after(0b1100, 0b1010, 7, 1, 2, 14), 1, 0b0100, 0);
        due("CLEAR", after(LOW + 3, 1, 7, 1, 2, 14), 1, LOW + 2, N);
        due("CLEAR", after(6, 7, 7, 1, 2, 14), 1, 0, Z);
        due("NOT", after(99, 5, 7, 1, 2, 15), 1, -6, N);
        due("NOT", after(99, -1, 7, 1, 2, 15), 1, 0, Z);
        due("NOT", after(99, LOW, 7, 1, 2, 15), 1, HIGH, 0);
        due("b stays", after(99, LOW, 7, 1, 2, 15), 2, LOW, 0);
    }

    /** LOW + LOW sets Z, C and V; what follows may change N and Z alone, or nothing. */
    private static void flagsThatStay() {
        Check.sentence("ADD, TAKE and COMPARE set C and V, too");
        int[][] table = {{1, 4, 7, 0, C + V}, {1, 4, 0, 0, Z + C + V}, {7, 4, 1, 12, N + C + V},
            {7, 4, 1, 0, Z + C + V}, {7, 4, 1, 1, N + C + V}, {7, 4, 4, 13, Z + C + V}, {7, 4, 1, 14, Z + C + V},
            {7, 4, 4, 15, N + C + V},
            {10, 4, -7, 0, Z + C + V}, {8, 1, 6, 0, Z + C + V}, {9, 4, 6, 0, Z + C + V}, {13, 2, 0, 0, Z + C + V},
            {11, 0, 0, 0, Z + C + V}, {12, 0, 0, 0, Z + C + V}, {12, 0, 0, 1, Z + C + V}, {15, 0, 0, 0, Z + C + V}};
        for (int[] row : table) {
            PoolAssembler p = Check.source(10, 6, 4096, 0, 10, 1, LOW, 0, 5, 2, 1, 1,
                row[0], row[1], row[2], row[3], 0, 0, 0, 0, 15, 0, 0, 0);
            p.assemble();
            Check.due("run", 1, p.run(20));
            Check.due("flags behind line " + row[0] + ", " + row[3], row[4], p.register(9));
        }
    }

    private static void registersThatAreTheSame() {
        Check.sentence("The results of MOVE, ADD, TAKE and of line 7 but COMPARE go into register a");
        due("ADD 1, 1, 1", after(5, 0, 5, 1, 1, 1), 1, 10, 0);
        due("TAKE 1, 1, 1", after(5, 0, 6, 1, 1, 1), 1, 0, Z + C);
        due("TAKE 2, 1, 2", after(5, 3, 6, 2, 1, 2), 2, 2, C);
        due("TAKE 1, 2, 1", after(5, 3, 6, 1, 2, 1), 1, -2, N);
        due("MULTIPLY 1, 1", after(-9, 0, 7, 1, 1, 13), 1, 81, 0);
        due("XOR 1, 1", after(-9, 0, 7, 1, 1, 1), 1, 0, Z);
        PoolAssembler p = Check.source(10, 3, 4100, 0, 8, 3, 3, 1, 9, 3, 3, 1, 15, 0, 0, 0);
        p.assemble();
        Check.due("run", 1, p.run(9));
        due("a register stored at itself and loaded", p, 3, 4100, 0);
        Check.due("the word", 4100, p.data(2));
        registersAllZero();
    }

    /** The lowest half of each kind. */
    private static void registersAllZero() {
        int[][] table = {{1, 0, 0, Z}, {2, 0, 4096, C}, {3, 0, 4096, 0}, {4, 0, 4096, C}, {5, 0, 8192, 0},
            {6, 0, 0, Z + C}, {7, 0, 4096, 0}, {8, 4096, 4096, 0}, {9, 0, 0, 0}};
        for (int[] row : table) {
            PoolAssembler p = Check.source(10, 0, 4096, 0, row[0], 0, 0, 0, 15, 0, 0, 0);
            p.assemble();
            Check.due("run of kind " + row[0], 1, p.run(9));
            due("kind " + row[0] + " with zeros", p, 0, row[2], row[3]);
            Check.due("the word", row[1], p.data(0));
        }
    }

    /** Each pair compared, then each branch: C is that x is not below y, unsigned; LESS and GREATER are signed. */
    private static void conditions() {
        Check.sentence("CARRY is C; MINUS is N; EQUAL is Z; LESS is that N is unlike V; GREATER is neither Z nor LESS");
        int[] values = {0, 1, -1, LOW, HIGH, 77, -77, LOW + 1};
        for (int x : values) {
            for (int y : values) {
                long wide = (long) x - y;
                boolean minus = (int) wide < 0;
                condition(x, y, 0, x == y);
                condition(x, y, 1, x != y);
                condition(x, y, 2, Integer.compareUnsigned(x, y) >= 0);
                condition(x, y, 3, Integer.compareUnsigned(x, y) < 0);
                condition(x, y, 4, minus);
                condition(x, y, 5, !minus);
                condition(x, y, 10, x >= y);
                condition(x, y, 11, x < y);
                condition(x, y, 12, x > y);
                condition(x, y, 13, x <= y);
            }
        }
    }

    private static void condition(int x, int y, int condition, boolean goes) {
        PoolAssembler p = Check.source(10, 1, x, 0, 10, 2, y, 0, 7, 1, 2, 10, 12, 0, 0, condition, 15, 0, 0, 0,
            0, 0, 0, 0, 15, 0, 0, 0);
        p.assemble();
        Check.due("run", 1, p.run(9));
        Check.due(x + " to " + y + " by condition " + condition, goes ? 10 : 8, p.register(8));
    }

    /** Every c, to the first word, to the one at 4096 + 4 * c, and to the last. */
    private static void storesAndLoads() {
        Check.sentence("STORE puts register a to the address (register b) + 4 * c, LOAD gets it from there.");
        for (int c = 0; c <= 31; c++) {
            for (int word : new int[] {0, c, 31}) {
                PoolAssembler p = Check.made(10, 3, 4096 + 4 * word - 4 * c, 0, 10, 1, -5 - c, 0,
                    8, 1, 3, c, 9, 2, 3, c, 15, 0, 0, 0);
                Check.due("run", 1, p.run(9));
                due("word " + word + " by c " + c, p, 2, -5 - c, 0);
                Check.due("register a stays", -5 - c, p.register(1));
                Check.due("register b stays", 4096 + 4 * word - 4 * c, p.register(3));
                Check.due("the word", -5 - c, p.data(word));
            }
        }
        PoolAssembler over = Check.made(10, 3, 4096, 0, 10, 1, -5, 0, 8, 1, 3, 7, 8, 3, 3, 7, 9, 1, 3, 7, 15, 0, 0, 0);
        Check.due("run", 1, over.run(9));
        Check.due("a word that is put again", 4096, over.data(7));
        Check.due("and loaded", 4096, over.register(1));
    }

    /** The nearest and the farthest word that a CONSTANT can get, from both kinds of addresses. */
    private static void constants() {
        Check.sentence("CONSTANT gets the word at its BASE + 4 * W of the image.");
        for (int before = 0; before <= 1; before++) {
            for (int between : new int[] {0, 1, 2, 3, 509, 510}) {
                PoolAssembler p = new PoolAssembler();
                Check.space(p, before);
                p.line(10, 6, 0x89ABCDEF, 0);
                Check.space(p, between);
                Check.add(p, 14, 0, 0, 0, 15, 0, 0, 0);
                p.assemble();
                Check.due("a pool", 1, p.pools());
                Check.due("run", 1, p.run(2000));
                due("a constant over " + between + " halves", p, 6, 0x89ABCDEF, 0);
                Check.due("the place, at the last half", 2 * p.size() - 2, p.register(8));
            }
        }
    }

    private static void branches() {
        Check.sentence("BRANCH: to its address.");
        PoolAssembler p = Check.made(11, 2, 0, 0, 0, 1, 0, 0, 11, 1, 0, 0, 0, 2, 0, 0, 11, 3, 0, 0, 0, 3, 0, 0,
            11, 1, 0, 0);
        int[] places = {4, 6, 2, 2, 2};
        for (int place : places) {
            Check.due("run", 0, p.run(1));
            Check.due("the place", place, p.register(8));
        }
    }

    /** To the farthest address forward, and from there to the farthest backward. */
    private static void branchesToTheFarthest() {
        Check.sentence("BRANCH: to its address.");
        int[][] table = {{11, 0, 1023, 1022}, {12, 1, 127, 126}};
        for (int[] row : table) {
            PoolAssembler p = Check.source(row[0], 0, 0, row[1]);
            Check.space(p, row[2]);
            Check.add(p, 13, 1, 0, 0, 0, 0, 0, 0, 15, 0, 0, 0);
            p.assemble();
            Check.due("kind " + row[0] + " forward", 1, p.run(2));
            Check.due("the place", 4 + 2 * row[2], p.register(8));
            PoolAssembler back = Check.source(11, 1, 0, 0, 0, 0, 0, 0, 15, 0, 0, 0);
            Check.space(back, row[3] - 1);
            Check.add(back, 0, 1, 0, 0, row[0], 0, 0, row[1]);
            back.assemble();
            Check.due("kind " + row[0] + " backward", 1, back.run(3));
            Check.due("the place", 2, back.register(8));
        }
    }

    private static void countingDown() {
        Check.sentence("Done is the half at the place, then the place is the next half's, but for branches.");
        PoolAssembler p = Check.source(1, 0, 100, 0, 0, 3, 0, 0, 5, 1, 1, 0, 4, 0, 1, 0, 12, 3, 0, 1, 15, 0, 0, 0);
        p.assemble();
        Check.due("301 instructions", 0, p.run(301));
        Check.due("and HALT", 1, p.run(1));
        due("the sum of 1 .. 100", p, 1, 5050, Z + C);
    }
}
