import java.util.Random;

/**
 * Rules 6 and 7 of LANGUAGE.md, and "Throws, changing nothing": any call with any numbers in any state answers or
 * throws what is due, by Model. Each object has its 512 calls, from a fixed seed; many of them are near some bound.
 */
public final class AnyCallTest {
    private static final int MOST_CALLS = 512;
    private static final Class<IllegalArgumentException> NOT_AS_SAID = IllegalArgumentException.class;
    private static final Class<IllegalStateException> NO_ROOM = IllegalStateException.class;
    private static final int[] BOUNDS = {-1024, -128, 0, 7, 9, 15, 31, 40, 127, 159, 255, 510, 1023, 4096, 4220, 5000,
        6399, 12798, 65535};
    private static final int[] CONSTANTS = {0, 1, -1, 4096, 4160, 4220, 4224, 65536, Check.LOW, Check.HIGH};

    private final Random random;
    private final PoolAssembler x = new PoolAssembler();
    private final Model model = new Model();
    private final int lineShare;
    private final int wildShare;
    private final int seed;

    private AnyCallTest(int seed) {
        this.seed = seed;
        random = new Random(seed);
        lineShare = 40 + random.nextInt(55);
        wildShare = random.nextInt(30);
    }

    public static void main(String[] args) {
        for (int seed = 0; seed < 3000; seed++) {
            AnyCallTest test = new AnyCallTest(seed);
            for (int call = 1; call <= MOST_CALLS; call++) {
                test.call(call);
            }
        }
        Check.end();
    }

    private void call(int number) {
        String name = "seed " + seed + ", call " + number + ": ";
        if (random.nextInt(100) < lineShare) {
            line(name);
            return;
        }
        switch (random.nextInt(20)) {
            case 0 -> clear();
            case 1, 2, 3 -> assemble(name);
            case 4 -> Check.due(name + "refused", model.refused(), x.refused());
            case 5, 6 -> half(name);
            case 7 -> Check.due(name + "size", model.size(), x.size());
            case 8 -> Check.due(name + "pools", model.pools(), x.pools());
            case 9, 10, 11 -> run(name);
            case 12 -> restart();
            case 13, 14, 15, 16 -> register(name);
            default -> data(name);
        }
    }

    private boolean isWild() {
        return random.nextInt(100) < wildShare;
    }

    /** Some number at all, or one at most two beside a bound of the document. */
    private int wild() {
        return switch (random.nextInt(4)) {
            case 0 -> random.nextInt();
            case 1 -> random.nextBoolean() ? Check.LOW : Check.HIGH;
            default -> BOUNDS[random.nextInt(BOUNDS.length)] + random.nextInt(5) - 2;
        };
    }

    private int number(int many) {
        return isWild() ? wild() : random.nextInt(many);
    }

    /** Without branches a source is seldom refused, so that every third object comes to big images, too. */
    private int kind() {
        int kind = random.nextInt(4) == 0 ? 13 - 3 * random.nextInt(2) : random.nextInt(16);
        return seed % 3 == 0 && (kind == 11 || kind == 12) ? 13 : kind;
    }

    private void line(String name) {
        int kind = isWild() ? wild() : kind();
        int a = number(kind == 13 ? 41 : kind == 0 || kind == 11 || kind == 12 ? 16 : 8);
        int b = kind == 10 ? CONSTANTS[random.nextInt(CONSTANTS.length)] : number(kind < 5 ? 256 : 8);
        int c = number(kind == 8 || kind == 9 ? 32 : kind == 7 || kind == 12 ? 16 : 8);
        String told = name + "line(" + kind + ", " + a + ", " + b + ", " + c + ")";
        if (!Model.isAsSaid(kind, a, b, c)) {
            Check.dueThrow(told, NOT_AS_SAID, () -> x.line(kind, a, b, c));
        } else if (model.lines() == 160 || kind == 0 && model.hasLabel(a)) {
            Check.dueThrow(told, NO_ROOM, () -> x.line(kind, a, b, c));
        } else {
            Check.due(told, model.line(kind, a, b, c), x.line(kind, a, b, c));
        }
    }

    private void clear() {
        model.clear();
        x.clear();
    }

    private void restart() {
        model.restart();
        x.restart();
    }

    private void assemble(String name) {
        int want = model.assemble();
        if (want < 0) {
            Check.dueThrow(name + "assemble", ArithmeticException.class, x::assemble);
        } else {
            Check.due(name + "assemble", want, x.assemble());
        }
    }

    private void half(String name) {
        int k = isWild() ? wild() : random.nextInt(model.size() + 2) - 1;
        Check.due(name + "half(" + k + ")", model.half(k), x.half(k));
    }

    private void run(String name) {
        int fuel = isWild() ? wild() : random.nextBoolean() ? 1 + random.nextInt(5000) : random.nextInt(12);
        String told = name + "run(" + fuel + ")";
        if (fuel < 1 || fuel > 5000) {
            Check.dueThrow(told, NOT_AS_SAID, () -> x.run(fuel));
        } else {
            Check.due(told, model.run(fuel), x.run(fuel));
        }
    }

    private void register(String name) {
        int r = number(10);
        String told = name + "register(" + r + ")";
        if (r < 0 || r > 9) {
            Check.dueThrow(told, NOT_AS_SAID, () -> x.register(r));
        } else {
            Check.due(told, model.register(r), x.register(r));
        }
    }

    private void data(String name) {
        int k = number(32);
        Check.due(name + "data(" + k + ")", model.data(k), x.data(k));
    }
}
