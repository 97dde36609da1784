import java.util.Random;

/**
 * Many runs of calls from a fixed seed, each call answered by PoolAssembler and by Model. A big image is looked at half
 * by half, which takes more calls than the 512 of the document: this class answers them all the same.
 */
public final class ModelTest {
    private static final int[] WORKS = {0, 1, 10, 12, 13, 14, 15};
    private static final int[] CONDITIONS = {0, 1, 2, 3, 4, 5, 10, 11, 12, 13};
    private static final int[] ODD_NUMBERS = {0, 1, -1, 4096, 4100, 4220, 4224, 18112, 48640, 57344, 65535, 65536,
        Integer.MIN_VALUE, Integer.MAX_VALUE};

    private final Random random;
    private final PoolAssembler x = new PoolAssembler();
    private final Model model = new Model();
    private final int spaces;
    private final int constants;
    private final String name;

    private ModelTest(int seed) {
        random = new Random(seed);
        spaces = random.nextInt(12);
        constants = random.nextInt(12);
        name = "run " + seed;
    }

    public static void main(String[] args) {
        for (int seed = 0; seed < 1500; seed++) {
            new ModelTest(seed).go();
        }
        Check.end();
    }

    private void go() {
        for (int round = 0; round < 4; round++) {
            int lines = random.nextInt(3) == 0 ? random.nextInt(170) : random.nextInt(40);
            for (int i = 0; i < lines; i++) {
                addLine();
            }
            if (random.nextInt(8) != 0) {
                addMissingLabels();
            }
            assemble();
            for (int k = random.nextInt(6); k > 0; k--) {
                int fuel = random.nextInt(4) == 0 ? 1 + random.nextInt(5000) : 1 + random.nextInt(20);
                Check.due(name + ": run", model.run(fuel), x.run(fuel));
                compareProcessors();
            }
            if (random.nextInt(4) == 0) {
                x.restart();
                model.restart();
                compareProcessors();
            }
            if (random.nextInt(2) == 0) {
                x.clear();
                model.clear();
            }
        }
    }

    private void addLine() {
        int kind = kind();
        int a = kind == 0 || kind == 11 || kind == 12 ? random.nextInt(16) : random.nextInt(8);
        int b = random.nextInt(8);
        int c = random.nextInt(8);
        switch (kind) {
            case 1, 2, 3, 4 -> b = random.nextInt(256);
            case 7 -> c = WORKS[random.nextInt(WORKS.length)];
            case 8, 9 -> c = random.nextInt(32);
            case 10 -> b = constant();
            case 12 -> c = CONDITIONS[random.nextInt(CONDITIONS.length)];
            case 13 -> a = 1 + random.nextInt(40);
            default -> { }
        }
        add(kind, a, b, c);
    }

    private int kind() {
        int chance = random.nextInt(40);
        if (chance < spaces) {
            return 13;
        }
        return chance < spaces + constants ? 10 : random.nextInt(random.nextInt(4) == 0 ? 16 : 14);
    }

    private int constant() {
        return switch (random.nextInt(3)) {
            case 0 -> random.nextInt();
            case 1 -> ODD_NUMBERS[random.nextInt(ODD_NUMBERS.length)];
            default -> 4096 + 4 * random.nextInt(32);
        };
    }

    private void addMissingLabels() {
        for (int label = 0; label < 16; label++) {
            if (!model.hasLabel(label)) {
                add(0, label, 0, 0);
            }
        }
    }

    private void add(int kind, int a, int b, int c) {
        if (model.lines() == 160 || kind == 0 && model.hasLabel(a)) {
            Check.dueThrow(name + ": line", IllegalStateException.class, () -> x.line(kind, a, b, c));
        } else {
            Check.due(name + ": line", model.line(kind, a, b, c), x.line(kind, a, b, c));
        }
    }

    private void assemble() {
        int want = model.assemble();
        if (want < 0) {
            Check.dueThrow(name + ": assemble", ArithmeticException.class, x::assemble);
        } else {
            Check.due(name + ": assemble", want, x.assemble());
        }
        Check.due(name + ": refused", model.refused(), x.refused());
        Check.due(name + ": size", model.size(), x.size());
        Check.due(name + ": pools", model.pools(), x.pools());
        for (int k = -1; k <= model.size(); k++) {
            Check.due(name + ": half " + k, model.half(k), x.half(k));
        }
        compareProcessors();
    }

    private void compareProcessors() {
        for (int r = 0; r <= 9; r++) {
            Check.due(name + ": register " + r, model.register(r), x.register(r));
        }
        for (int k = -1; k <= 32; k++) {
            Check.due(name + ": data " + k, model.data(k), x.data(k));
        }
    }
}
