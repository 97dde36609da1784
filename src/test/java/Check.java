/** What the tests share: it counts wrong answers and ends the test with exit code 1 if there was one. */
final class Check {
    static final int LOW = Integer.MIN_VALUE;
    static final int HIGH = Integer.MAX_VALUE;

    private static int asked = 0;
    private static int wrong = 0;
    private static String sentence = "";

    /** A call that may throw. */
    interface Call {
        long answer();
    }

    /** The words of the document that the answers from here on are due by; told with each wrong answer. */
    static void sentence(String words) {
        sentence = words;
    }

    static void due(String what, long want, long got) {
        asked++;
        if (got != want) {
            tellWrong(what + " answered " + got + ", due is " + want);
        }
    }

    static void dueThrow(String what, Class<? extends RuntimeException> want, Call call) {
        asked++;
        String got;
        try {
            got = "answered " + call.answer();
        } catch (RuntimeException e) {
            if (e.getClass() == want) {
                return;
            }
            got = "threw " + e.getClass().getName();
        }
        tellWrong(what + " " + got + ", due is " + want.getName());
    }

    private static void tellWrong(String what) {
        wrong++;
        System.out.println((sentence.isEmpty() ? "" : "\"" + sentence + "\": ") + what);
    }

    static void dueHalves(String what, PoolAssembler x, int... want) {
        due(what + ": size", want.length, x.size());
        for (int k = 0; k < want.length; k++) {
            due(what + ": half " + k, (short) want[k], x.half(k));
        }
        due(what + ": half behind the end", 0, x.half(want.length));
    }

    /** All that the face shows of an object, but for its source and whether its run has ended. */
    static String seen(PoolAssembler x) {
        StringBuilder text = new StringBuilder("refused " + x.refused() + ", " + x.pools() + " pools, halves");
        for (int k = 0; k < x.size(); k++) {
            text.append(' ').append(x.half(k));
        }
        return text + ", " + seenOfProcessor(x);
    }

    static String seenOfProcessor(PoolAssembler x) {
        StringBuilder text = new StringBuilder("registers");
        for (int r = 0; r <= 9; r++) {
            text.append(' ').append(x.register(r));
        }
        text.append(", data");
        for (int k = 0; k < 32; k++) {
            text.append(' ').append(x.data(k));
        }
        return text.toString();
    }

    static void dueSeen(String what, String want, String got) {
        asked++;
        if (!got.equals(want)) {
            tellWrong(what + ": seen is " + got + ", due is " + want);
        }
    }

    static void dueBeginning(String what, PoolAssembler x) {
        dueSeen(what, seenOfProcessor(new PoolAssembler()), seenOfProcessor(x));
    }

    /** A new object with these lines, four numbers each. */
    static PoolAssembler source(int... numbers) {
        PoolAssembler x = new PoolAssembler();
        add(x, numbers);
        return x;
    }

    /** The same, assembled. */
    static PoolAssembler made(int... numbers) {
        PoolAssembler x = source(numbers);
        x.assemble();
        return x;
    }

    static void add(PoolAssembler x, int... numbers) {
        for (int i = 0; i < numbers.length; i += 4) {
            x.line(numbers[i], numbers[i + 1], numbers[i + 2], numbers[i + 3]);
        }
    }

    /** SPACE lines of so many halves altogether. */
    static void space(PoolAssembler x, int halves) {
        for (int left = halves; left > 0; left -= 40) {
            x.line(13, Math.min(left, 40), 0, 0);
        }
    }

    static void refuses(String what, PoolAssembler x, int line) {
        dueThrow(what + ": assemble", ArithmeticException.class, x::assemble);
        due(what + ": refused", line, x.refused());
    }

    static void end() {
        System.out.println(asked + " answers asked, " + wrong + " wrong");
        if (wrong != 0) {
            System.exit(1);
        }
    }

    private Check() {
    }
}
