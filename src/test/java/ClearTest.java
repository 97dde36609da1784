/** Promise 3: clear. */
public final class ClearTest {
    public static void main(String[] args) {
        ofAnEmptySource();
        ofAFullSource();
        labelsAreFreeAgain();
        constantsWaitNoMore();
        theImageStays();
        theRunGoesOn();
        theEndOfARunStays();
        theRefusedLineStays();
        Check.end();
    }

    private static void ofAnEmptySource() {
        Check.sentence("The source is empty; the image stays.");
        PoolAssembler x = new PoolAssembler();
        String before = Check.seen(x);
        x.clear();
        x.clear();
        Check.dueSeen("clear of a new object", before, Check.seen(x));
        Check.due("the first line", 0, x.line(15, 0, 0, 0));
    }

    private static void ofAFullSource() {
        Check.sentence("The source is empty; the image stays.");
        PoolAssembler x = new PoolAssembler();
        Check.space(x, 6400);
        Check.dueThrow("line 160", IllegalStateException.class, () -> x.line(14, 0, 0, 0));
        x.clear();
        Check.due("assemble of the empty source", 0, x.assemble());
        for (int i = 0; i < 160; i++) {
            Check.due("line " + i + " behind clear", i, x.line(14, 0, 0, 0));
        }
        Check.dueThrow("line 160 behind clear", IllegalStateException.class, () -> x.line(14, 0, 0, 0));
    }

    private static void labelsAreFreeAgain() {
        Check.sentence("The source is empty; the image stays.");
        PoolAssembler x = new PoolAssembler();
        for (int label = 0; label < 16; label++) {
            x.line(0, label, 0, 0);
        }
        x.clear();
        for (int label = 0; label < 16; label++) {
            x.line(11, label, 0, 0);
            Check.refuses("a branch to label " + label, x, 0);
            Check.due("label " + label, 1, x.line(0, label, 0, 0));
            Check.due("assemble", 1, x.assemble());
            x.clear();
        }
    }

    private static void constantsWaitNoMore() {
        Check.sentence("The source is empty; the image stays.");
        PoolAssembler x = Check.source(10, 0, 7, 0, 10, 1, 8, 0);
        x.clear();
        x.line(15, 0, 0, 0);
        Check.due("assemble", 1, x.assemble());
        Check.due("pools", 0, x.pools());
    }

    private static void theImageStays() {
        Check.sentence("The source is empty; the image stays.");
        PoolAssembler x = Check.made(0, 1, 0, 0, 10, 0, 70000, 0, 15, 0, 0, 0);
        String before = Check.seen(x);
        x.clear();
        Check.dueSeen("behind clear", before, Check.seen(x));
        Check.dueHalves("behind clear", x, 18432, 0xBE00, 4464, 1);
        Check.due("pools", 1, x.pools());
        Check.due("the image is still run", 1, x.run(9));
        Check.due("its constant", 70000, x.register(0));
        Check.due("assemble of the empty source", 0, x.assemble());
        Check.dueHalves("now it is gone", x);
        Check.due("its pools, too", 0, x.pools());
    }

    private static void theRunGoesOn() {
        Check.sentence("The source is empty; the image stays.");
        PoolAssembler x = Check.made(10, 0, 4096, 0, 8, 0, 0, 31, 4, 1, 1, 0, 15, 0, 0, 0);
        x.run(3);
        String before = Check.seen(x);
        x.clear();
        Check.dueSeen("behind clear", before, Check.seen(x));
        Check.due("a word of data", 4096, x.data(31));
        Check.due("the place", 6, x.register(8));
        Check.due("the flags", 8, x.register(9));
        Check.due("the run goes on", 1, x.run(1));
    }

    private static void theEndOfARunStays() {
        Check.sentence("the same again when it had ended");
        PoolAssembler halted = Check.made(15, 0, 0, 0);
        halted.run(1);
        halted.clear();
        Check.due("a run that halted, behind clear", 1, halted.run(1));
        PoolAssembler faulted = Check.made(8, 0, 0, 0);
        faulted.run(1);
        faulted.clear();
        Check.due("a run with a fault, behind clear", 2, faulted.run(1));
    }

    private static void theRefusedLineStays() {
        Check.sentence("The line that the latest assemble refused");
        PoolAssembler x = Check.source(15, 0, 0, 0, 11, 0, 0, 0);
        Check.refuses("no label", x, 1);
        x.clear();
        Check.due("refused behind clear", 1, x.refused());
        Check.due("assemble of the empty source", 0, x.assemble());
        Check.due("refused behind it", PoolAssembler.NONE, x.refused());
    }
}
