import java.lang.reflect.Field;

/** Promise 9: each fault, and that nothing is done then. */
public final class FaultTest {
    private static final int NOTHING = 18112;
    private static final int HALT = 48640;

    public static void main(String[] args) throws ReflectiveOperationException {
        placesOutsideOfTheImage();
        addressesOfData();
        addressesThatAreNoWord();
        everyHalf();
        halvesThatNoLineMakes();
        wordsWithinTheImage();
        Check.end();
    }

    /** The next step is a fault; nothing is done, and the fault stays. */
    private static void dueFault(String what, PoolAssembler x) {
        String before = Check.seen(x);
        Check.due(what, 2, x.run(1));
        Check.dueSeen(what + ": nothing is done", before, Check.seen(x));
        Check.due(what + ": again", 2, x.run(5000));
        Check.dueSeen(what + ": nothing is done again", before, Check.seen(x));
    }

    private static void placesOutsideOfTheImage() {
        Check.sentence("a place outside of the image");
        dueFault("no image", new PoolAssembler());
        dueFault("an image of no lines", Check.made());
        dueFault("an image of lines without halves", Check.made(0, 0, 0, 0, 14, 0, 0, 0));
        PoolAssembler x = Check.made(4, 1, 1, 0);
        Check.due("the last half is still done", 0, x.run(1));
        Check.due("the place", 2, x.register(8));
        dueFault("behind the last half", x);
        PoolAssembler branch = Check.made(11, 1, 0, 0, 13, 5, 0, 0, 0, 1, 0, 0);
        Check.due("a branch to the end", 0, branch.run(1));
        Check.due("its place", 12, branch.register(8));
        dueFault("behind the branch", branch);
        PoolAssembler unlike = Check.made(12, 1, 0, 1, 15, 0, 0, 0, 0, 1, 0, 0);
        Check.due("a branch if to the end", 0, unlike.run(1));
        dueFault("behind the branch if", unlike);
        PoolAssembler equal = Check.made(12, 1, 0, 0, 0, 1, 0, 0);
        Check.due("a branch if that does not go, as the last half", 0, equal.run(1));
        dueFault("behind it", equal);
        PoolAssembler pool = Check.made(10, 0, 5, 0);
        Check.due("over the last pool", 0, pool.run(2));
        Check.due("its place", 8, pool.register(8));
        dueFault("behind the last pool", pool);
    }

    /** STORE and LOAD with register 0 at the base and this c; register 1 is -1. */
    private static PoolAssembler atData(int kind, int base, int c) {
        PoolAssembler x = Check.made(4, 1, 1, 0, 10, 0, base, 0, kind, 1, 0, c, 15, 0, 0, 0);
        x.run(2);
        return x;
    }

    private static void addressesOfData() {
        Check.sentence("32 words of data at the addresses 4096, 4100, .., 4220");
        int[][] right = {{4096, 0, 0}, {4220, 0, 31}, {4096, 31, 31}, {4096 - 124, 31, 0}, {4092, 1, 0}, {4216, 1, 31},
            {4100, 30, 31}, {4100, 0, 1}};
        for (int[] row : right) {
            PoolAssembler store = atData(8, row[0], row[1]);
            Check.due("STORE at " + row[0] + " + 4 * " + row[1], 0, store.run(1));
            Check.due("its word", -1, store.data(row[2]));
            Check.due("the place", 6, store.register(8));
            PoolAssembler load = atData(9, row[0], row[1]);
            Check.due("LOAD at " + row[0] + " + 4 * " + row[1], 0, load.run(1));
            Check.due("what it gets", 0, load.register(1));
        }
    }

    private static void addressesThatAreNoWord() {
        Check.sentence("an address of STORE or LOAD that is no word of data");
        int[][] wrong = {{0, 0}, {0, 31}, {4092, 0}, {4224, 0}, {4100, 31}, {4096 - 128, 31}, {4220, 1}, {4088, 1},
            {4095, 0}, {4097, 0}, {4098, 0}, {4099, 0}, {4219, 0}, {4221, 0}, {4222, 0}, {4223, 0}, {4093, 1},
            {-4, 1}, {-4, 0}, {-4096, 0}, {4096 + 65536, 0}, {4096 + (1 << 30), 0}, {4096 + (1 << 31), 0},
            {Check.LOW, 0}, {Check.LOW, 31}, {Check.HIGH, 0}, {Check.HIGH, 31}, {Check.HIGH - 3, 1}, {Check.HIGH, 1}};
        for (int[] row : wrong) {
            dueFault("STORE at " + row[0] + " + 4 * " + row[1], atData(8, row[0], row[1]));
            dueFault("LOAD at " + row[0] + " + 4 * " + row[1], atData(9, row[0], row[1]));
        }
    }

    /** No source makes an image whose run meets the two faults that follow: so an image is put there past the face. */
    private static PoolAssembler withImage(int... halves) throws ReflectiveOperationException {
        PoolAssembler x = new PoolAssembler();
        Object image = inside(x, "image").get(x);
        short[] row = (short[]) inside(image, "halves").get(image);
        for (int k = 0; k < halves.length; k++) {
            row[k] = (short) halves[k];
        }
        inside(image, "count").setInt(image, halves.length);
        return x;
    }

    private static Field inside(Object of, String name) throws ReflectiveOperationException {
        Field field = of.getClass().getDeclaredField(name);
        field.setAccessible(true);
        return field;
    }

    /** Every half there is, with a word of the image in reach of a CONSTANT of W 0 alone. */
    private static void everyHalf() throws ReflectiveOperationException {
        Check.sentence("a half that no line makes");
        for (int half = 0; half < 65536; half++) {
            int[] halves = {half, NOTHING, 0x1234, 0x5678};
            PoolAssembler x = withImage(halves);
            Model model = new Model();
            model.take(halves);
            Check.due("run of half " + half, model.run(1), x.run(1));
            for (int r = 0; r <= 9; r++) {
                Check.due("register " + r + " behind half " + half, model.register(r), x.register(r));
            }
        }
    }

    /** The last half that a line makes and the first that none makes, around each kind. */
    private static void halvesThatNoLineMakes() throws ReflectiveOperationException {
        Check.sentence("a half that no line makes");
        int[][] made = {{6144, 7167}, {8192, 16384 + 127}, {16384 + 640, 16384 + 703}, {16384 + 768, 16384 + 1023},
            {NOTHING, NOTHING}, {HALT, HALT}, {53248, 53248 + 1535}, {53248 + 2560, 53248 + 3583},
            {57344, 57344 + 2047}};
        for (int[] row : made) {
            for (int half : row) {
                Check.due("half " + half, half == HALT ? 1 : 0, withImage(half).run(1));
            }
            dueFault("half " + (row[0] - 1), withImage(row[0] - 1));
            dueFault("half " + (row[1] + 1), withImage(row[1] + 1));
        }
        dueFault("half 0", withImage(0));
        dueFault("half 65535", withImage(65535));
        dueFault("half 18431", withImage(18431));
        dueFault("half 20480", withImage(20480, NOTHING, 1, 1));
        dueFault("half 24575", withImage(24575));
        dueFault("half 28672", withImage(28672));
    }

    /** CONSTANT at 0 with BASE 4, or at 2 with BASE 4: the word has to end within the image. */
    private static void wordsWithinTheImage() throws ReflectiveOperationException {
        Check.sentence("a constant's word that is not within the image");
        PoolAssembler x = withImage(18432 + 1792, NOTHING, 0x5678, 0x1234);
        Check.due("the last word", 0, x.run(1));
        Check.due("what it gets", 0x12345678, x.register(7));
        dueFault("the second half is not within", withImage(18432 + 1792, NOTHING, 0x5678));
        dueFault("no half is within", withImage(18432 + 1792, NOTHING));
        dueFault("CONSTANT alone", withImage(18432));
        dueFault("a word further", withImage(18432 + 1, NOTHING, 0x5678, 0x1234));
        dueFault("the furthest word", withImage(18432 + 255, NOTHING, 0x5678, 0x1234));
        PoolAssembler at2 = withImage(NOTHING, 18432, 0x5678, 0x1234);
        Check.due("from 2", 0, at2.run(2));
        Check.due("what it gets", 0x12345678, at2.register(0));
        PoolAssembler late = withImage(NOTHING, 18432 + 1, 0x5678, 0x1234);
        Check.due("up to it", 0, late.run(1));
        dueFault("a word further, from 2", late);
    }
}
