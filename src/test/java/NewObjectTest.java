/** Promise 1: a new object has no lines and no image, and a processor at its beginning. */
public final class NewObjectTest {
    public static void main(String[] args) {
        noLines();
        noImage();
        allIsZeroAtFirst();
        objectsShareNothing();
        theLastCallThatIsPromised();
        Check.end();
    }

    private static void noLines() {
        Check.sentence("No lines, no image.");
        Check.due("the first line", 0, new PoolAssembler().line(15, 0, 0, 0));
        Check.due("assemble of no lines", 0, new PoolAssembler().assemble());
        for (int label = 0; label < 16; label++) {
            Check.due("label " + label + " has no line", 0, new PoolAssembler().line(0, label, 0, 0));
            Check.refuses("a branch to label " + label, Check.source(11, label, 0, 0), 0);
        }
        PoolAssembler x = new PoolAssembler();
        for (int i = 0; i < 160; i++) {
            Check.due("there is room for line " + i, i, x.line(15, 0, 0, 0));
        }
    }

    private static void noImage() {
        Check.sentence("No lines, no image.");
        PoolAssembler x = new PoolAssembler();
        Check.due("size", 0, x.size());
        Check.due("pools", 0, x.pools());
        Check.due("refused", PoolAssembler.NONE, x.refused());
        for (int k : new int[] {Check.LOW, -1, 0, 1, 6399, 6400, Check.HIGH}) {
            Check.due("half(" + k + ")", 0, x.half(k));
        }
        Check.due("run without an image", 2, x.run(1));
        Check.due("the place of the fault", 0, x.register(8));
        Check.due("run again", 2, x.run(5000));
        x.line(15, 0, 0, 0);
        Check.due("a line makes no image yet", 0, x.size());
        Check.due("the ended run stays ended", 2, x.run(1));
        x.restart();
        Check.due("restart makes no image, either", 2, x.run(1));
        Check.due("assemble", 1, x.assemble());
        Check.due("run", 1, x.run(1));
    }

    private static void allIsZeroAtFirst() {
        Check.sentence("All is 0 at first.");
        PoolAssembler x = new PoolAssembler();
        for (int r = 0; r <= 9; r++) {
            Check.due("register " + r, 0, x.register(r));
        }
        for (int k = 0; k < 32; k++) {
            Check.due("data " + k, 0, x.data(k));
        }
        x.restart();
        Check.dueBeginning("behind restart", x);
    }

    private static void objectsShareNothing() {
        Check.sentence("No lines, no image.");
        PoolAssembler one = Check.made(0, 3, 0, 0, 10, 0, 4096, 0, 8, 0, 0, 0, 4, 1, 1, 0, 15, 0, 0, 0);
        one.run(9);
        PoolAssembler other = new PoolAssembler();
        Check.dueBeginning("the other's processor", other);
        Check.due("the other's size", 0, other.size());
        Check.due("the other's half", 0, other.half(0));
        Check.due("the other's pools", 0, other.pools());
        Check.due("the other's first line", 0, other.line(0, 3, 0, 0));
        Check.due("the other's image", 0, other.assemble());
        Check.due("the first one's size", 6, one.size());
        Check.due("the first one's data", 4096, one.data(0));
        Check.due("the first one's next line", 5, one.line(15, 0, 0, 0));
    }

    /** 160 lines, assemble, and 350 times one instruction: then the 512th call asks how far the run has come. */
    private static void theLastCallThatIsPromised() {
        Check.sentence("An object is used for at most 512 calls after it has been made");
        PoolAssembler x = new PoolAssembler();
        x.line(0, 0, 0, 0);
        for (int i = 1; i < 159; i++) {
            x.line(3, 7, 1, 0);
        }
        x.line(11, 0, 0, 0);
        Check.due("call 161: assemble", 159, x.assemble());
        for (int call = 162; call <= 511; call++) {
            Check.due("call " + call + ": run", 0, x.run(1));
        }
        Check.due("call 512: register", 350 - 2, x.register(7));
    }
}
