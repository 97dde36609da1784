/** Promise 1: a new object has no lines and no image, and a processor at its beginning. */
public final class NewObjectTest {
    public static void main(String[] args) {
        PoolAssembler x = new PoolAssembler();
        Check.due("size", 0, x.size());
        Check.due("pools", 0, x.pools());
        Check.due("refused", PoolAssembler.NONE, x.refused());
        Check.due("half(0)", 0, x.half(0));
        Check.due("half(-1)", 0, x.half(-1));
        for (int r = 0; r <= 9; r++) {
            Check.due("register " + r, 0, x.register(r));
        }
        for (int k = 0; k < 32; k++) {
            Check.due("data " + k, 0, x.data(k));
        }
        Check.due("run without an image", 2, x.run(1));
        Check.due("the place of the fault", 0, x.register(8));
        Check.due("run again", 2, x.run(5000));
        Check.due("the first line", 0, x.line(15, 0, 0, 0));
        Check.due("a line makes no image yet", 0, x.size());
        Check.due("the ended run stays ended", 2, x.run(1));
        Check.due("assemble", 1, x.assemble());
        Check.due("run", 1, x.run(1));

        PoolAssembler empty = new PoolAssembler();
        Check.due("assemble of no lines", 0, empty.assemble());
        Check.due("refused", -1, empty.refused());
        Check.due("run of an empty image", 2, empty.run(5));

        PoolAssembler other = new PoolAssembler();
        Check.due("objects share no lines", 0, other.line(0, 3, 0, 0));
        Check.due("objects share no labels", 0, new PoolAssembler().line(0, 3, 0, 0));
        Check.due("objects share no image", 0, other.half(0));
        Check.end();
    }
}
