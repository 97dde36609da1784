/** Promises 4, 6 and 7: the halves that the lines make, without pools; and what assemble leaves and begins anew. */
public final class AssembleTest {
    public static void main(String[] args) {
        halvesOfEveryKind();
        spaces();
        linesWithoutHalves();
        ofAnEmptySource();
        ofAFullSource();
        theImageIsMadeAnew();
        halvesThatAreNone();
        sizeInEveryState();
        theProcessorIsAtItsBeginning();
        whatARefusedSourceLeaves();
        Check.end();
    }

    private static void half(String what, int want, int kind, int a, int b, int c) {
        PoolAssembler x = Check.source(kind, a, b, c);
        Check.due(what + ": assemble", 1, x.assemble());
        Check.dueHalves(what, x, want);
        Check.due(what + ": pools", 0, x.pools());
    }

    /** The lowest and the highest half of each kind, and some with numbers that all differ. */
    private static void halvesOfEveryKind() {
        Check.sentence("lines make halves, one behind the other");
        half("MOVE", 0x2000, 1, 0, 0, 9);
        half("MOVE", 0x27FF, 1, 7, 255, -9);
        half("COMPARE small", 0x2800, 2, 0, 0, 0);
        half("COMPARE small", 0x2B64, 2, 3, 100, 0);
        half("COMPARE small", 0x2FFF, 2, 7, 255, 0);
        half("ADD small", 0x3000, 3, 0, 0, 0);
        half("ADD small", 0x3501, 3, 5, 1, 0);
        half("ADD small", 0x37FF, 3, 7, 255, 0);
        half("TAKE small", 0x3800, 4, 0, 0, 0);
        half("TAKE small", 0x38FF, 4, 0, 255, 0);
        half("TAKE small", 0x3FFF, 4, 7, 255, 0);
        half("ADD", 0x1800, 5, 0, 0, 0);
        half("ADD", 0x1800 + 3 * 64 + 2 * 8 + 1, 5, 1, 2, 3);
        half("ADD", 0x19FF, 5, 7, 7, 7);
        half("TAKE", 0x1A00, 6, 0, 0, 0);
        half("TAKE", 0x1A00 + 6 * 64 + 5 * 8 + 4, 6, 4, 5, 6);
        half("TAKE", 0x1BFF, 6, 7, 7, 7);
        half("AND", 0x4000, 7, 0, 0, 0);
        half("AND", 0x4000 + 8 * 2 + 1, 7, 1, 2, 0);
        half("XOR", 0x4040, 7, 0, 0, 1);
        half("COMPARE", 0x4280 + 8 * 7 + 3, 7, 3, 7, 10);
        half("OR", 0x4300, 7, 0, 0, 12);
        half("MULTIPLY", 0x4340, 7, 0, 0, 13);
        half("CLEAR", 0x4380, 7, 0, 0, 14);
        half("NOT", 0x43FF, 7, 7, 7, 15);
        half("STORE", 0x6000, 8, 0, 0, 0);
        half("STORE", 0x6000 + 64 * 3 + 8 * 2 + 1, 8, 1, 2, 3);
        half("STORE", 0x67FF, 8, 7, 7, 31);
        half("LOAD", 0x6800, 9, 0, 0, 0);
        half("LOAD", 0x6800 + 64 * 9 + 8 * 4 + 6, 9, 6, 4, 9);
        half("LOAD", 0x6FFF, 9, 7, 7, 31);
        half("SPACE", 18112, 13, 1, 6, 7);
        half("HALT", 0xBE00, 15, 5, 6, 7);
    }

    private static void spaces() {
        Check.sentence("13: a halves 18112 (NOTHING)");
        for (int many : new int[] {1, 2, 39, 40}) {
            PoolAssembler x = Check.source(1, 0, 0, 0, 13, many, 0, 0, 15, 0, 0, 0);
            Check.due("SPACE " + many, many + 2, x.assemble());
            for (int k = 1; k <= many; k++) {
                Check.due("NOTHING " + k, 18112, x.half(k));
            }
            Check.due("behind the SPACE", (short) 0xBE00, x.half(many + 1));
        }
    }

    private static void linesWithoutHalves() {
        Check.sentence("0 and 14 make none.");
        PoolAssembler x = Check.made(14, 0, 0, 0, 13, 3, 0, 0, 0, 4, 0, 0, 15, 0, 0, 0, 14, 0, 0, 0, 0, 5, 0, 0);
        Check.dueHalves("labels and pools between", x, 18112, 18112, 18112, 48640);
        Check.due("no pool without a constant", 0, x.pools());
        Check.dueHalves("labels and pools alone", Check.made(0, 0, 0, 0, 14, 0, 0, 0, 0, 15, 0, 0));
    }

    private static void ofAnEmptySource() {
        Check.sentence("Answers how many halves it has.");
        PoolAssembler x = new PoolAssembler();
        Check.due("of a new object", 0, x.assemble());
        Check.due("again", 0, x.assemble());
        Check.due("refused", PoolAssembler.NONE, x.refused());
        Check.due("size", 0, x.size());
        Check.due("pools", 0, x.pools());
        Check.due("run of an empty image", 2, x.run(5));
    }

    private static void ofAFullSource() {
        Check.sentence("Answers how many halves it has.");
        PoolAssembler x = new PoolAssembler();
        Check.space(x, 6400);
        Check.due("160 of the longest SPACE", 6400, x.assemble());
        Check.due("size", 6400, x.size());
        Check.due("the first half", 18112, x.half(0));
        Check.due("the last half", 18112, x.half(6399));
        Check.due("behind it", 0, x.half(6400));
        Check.due("run", 0, x.run(5000));
        Check.due("run to the end", 0, x.run(1400));
        Check.due("place", 12800, x.register(8));
        Check.due("run beyond", 2, x.run(1));
        PoolAssembler y = Check.source(10, 0, 65536, 0);
        Check.space(y, 158 * 40);
        y.line(10, 1, 65537, 0);
        Check.due("two constants and 158 of the longest SPACE", 1 + 3 + 158 * 40 + 1 + 3, y.assemble());
        Check.due("the last half but one", 1, y.half(6326));
        Check.due("the last half", 1, y.half(6327));
        Check.due("behind it", 0, y.half(6328));
    }

    private static void theImageIsMadeAnew() {
        Check.sentence("Makes the image");
        PoolAssembler x = Check.source(1, 1, 1, 0, 1, 2, 2, 0, 1, 3, 3, 0);
        Check.due("size before the first assemble", 0, x.size());
        Check.due("assemble", 3, x.assemble());
        Check.due("assemble again", 3, x.assemble());
        Check.add(x, 15, 0, 0, 0);
        Check.due("size before the next assemble", 3, x.size());
        Check.due("half before the next assemble", 0, x.half(3));
        Check.due("with a line more", 4, x.assemble());
        Check.dueHalves("the source stays", x, 0x2101, 0x2202, 0x2303, 0xBE00);
        x.clear();
        Check.add(x, 1, 4, 4, 0);
        Check.due("a shorter one", 1, x.assemble());
        Check.dueHalves("nothing of the image before is left", x, 0x2404);
        Check.due("not behind its end, either", 0, x.half(3));
        x.clear();
        Check.due("of no lines", 0, x.assemble());
        Check.dueHalves("nothing at all is left", x);
    }

    private static void halvesThatAreNone() {
        Check.sentence("Half k of the image (from 0 on); 0 when there is none.");
        PoolAssembler x = Check.made(11, 0, 0, 0, 0, 0, 0, 0, 1, 7, 255, 0, 15, 0, 0, 0);
        Check.due("half(0), below 0 as a short", 0xE7FF - 65536, x.half(0));
        Check.due("half(1)", 0x27FF, x.half(1));
        Check.due("half(2), the last", 0xBE00 - 65536, x.half(2));
        for (int k : new int[] {-1, 3, 4, -2, -3, -65536, 65536, 65538, Check.LOW, Check.LOW + 1, Check.HIGH}) {
            Check.due("half(" + k + ")", 0, x.half(k));
        }
    }

    private static void sizeInEveryState() {
        Check.sentence("How many halves the image has.");
        PoolAssembler x = new PoolAssembler();
        Check.due("of a new object", 0, x.size());
        Check.add(x, 13, 40, 0, 0, 10, 0, 1, 0, 15, 0, 0, 0);
        Check.due("with lines", 0, x.size());
        x.assemble();
        Check.due("behind assemble, with the pool", 44, x.size());
        x.line(11, 0, 0, 0);
        Check.due("with a line more", 44, x.size());
        Check.refuses("no label", x, 3);
        Check.due("behind a refused assemble", 44, x.size());
        x.run(5000);
        Check.due("behind run", 44, x.size());
        x.restart();
        Check.due("behind restart", 44, x.size());
        x.clear();
        Check.due("behind clear", 44, x.size());
        x.assemble();
        Check.due("of no lines", 0, x.size());
    }

    /** A run that is under way, one that halted and one with a fault: each begins anew with the next image. */
    private static void theProcessorIsAtItsBeginning() {
        Check.sentence("Makes the image; the processor is at its beginning.");
        PoolAssembler x = Check.made(10, 0, 4096, 0, 8, 0, 0, 0, 2, 0, 0, 0, 15, 0, 0, 0);
        Check.due("run", 0, x.run(3));
        Check.due("flags", 2, x.register(9));
        Check.due("data", 4096, x.data(0));
        x.assemble();
        Check.dueBeginning("behind a run that did not end", x);
        Check.due("to HALT", 1, x.run(9));
        x.assemble();
        Check.dueBeginning("behind a run that halted", x);
        Check.due("the run has not ended any more", 0, x.run(1));
        PoolAssembler y = Check.made(4, 1, 1, 0, 8, 1, 1, 0);
        Check.due("a fault", 2, y.run(9));
        y.assemble();
        Check.dueBeginning("behind a fault", y);
        Check.due("the run has not ended any more", 0, y.run(1));
    }

    private static void whatARefusedSourceLeaves() {
        Check.sentence("ArithmeticException when a line is REFUSED: the image before and the processor stay.");
        PoolAssembler none = Check.source(1, 0, 1, 0, 11, 0, 0, 0);
        String before = Check.seen(none).replace("refused -1", "refused 1");
        Check.refuses("without an image before", none, 1);
        Check.dueSeen("without an image before", before, Check.seen(none));
        Check.due("run without an image", 2, none.run(1));
        for (int fuel = 1; fuel <= 4; fuel++) {
            PoolAssembler x = Check.made(10, 2, 4096, 0, 8, 2, 2, 1, 4, 3, 1, 0, 15, 0, 0, 0);
            int answer = x.run(fuel);
            Check.due("run(" + fuel + ")", fuel == 4 ? 1 : 0, answer);
            Check.add(x, 1, 0, 9, 0, 10, 0, 99999, 0, 14, 0, 0, 0, 11, 0, 0, 0);
            before = Check.seen(x).replace("refused -1", "refused 7");
            Check.refuses("behind " + fuel, x, 7);
            Check.dueSeen("behind " + fuel, before, Check.seen(x));
            Check.dueHalves("behind " + fuel, x, 0x4A01, 0x6052, 0x3B01, 0xBE00, 4096, 0);
            Check.due("the run goes on, or has ended, as before", 1, x.run(4));
            Check.due("the place", 6, x.register(8));
        }
        PoolAssembler fault = Check.made(8, 0, 0, 0);
        Check.due("a fault", 2, fault.run(1));
        fault.line(11, 0, 0, 0);
        Check.refuses("behind a fault", fault, 1);
        Check.due("the fault stays", 2, fault.run(1));
        fault.line(0, 0, 0, 0);
        Check.due("the source stayed, too", 2, fault.assemble());
    }
}
