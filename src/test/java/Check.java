/** What the tests share: it counts wrong answers and ends the test with exit code 1 if there was one. */
final class Check {
    private static int asked = 0;
    private static int wrong = 0;

    /** A call that may throw. */
    interface Call {
        long answer();
    }

    static void due(String what, long want, long got) {
        asked++;
        if (got != want) {
            wrong++;
            System.out.println(what + " answered " + got + ", due is " + want);
        }
    }

    static void dueThrow(String what, Class<? extends RuntimeException> want, Call call) {
        asked++;
        String got;
        try {
            got = "answered " + call.answer();
        } catch (RuntimeException e) {
            if (e.getClass() == want) {
                return;
            }
            got = "threw " + e.getClass().getName();
        }
        wrong++;
        System.out.println(what + " " + got + ", due is " + want.getName());
    }

    static void dueHalves(String what, PoolAssembler x, int... want) {
        due(what + ": size", want.length, x.size());
        for (int k = 0; k < want.length; k++) {
            due(what + ": half " + k, (short) want[k], x.half(k));
        }
        due(what + ": half behind the end", 0, x.half(want.length));
    }

    /** A new object with these lines, four numbers each. */
    static PoolAssembler source(int... numbers) {
        PoolAssembler x = new PoolAssembler();
        add(x, numbers);
        return x;
    }

    static void add(PoolAssembler x, int... numbers) {
        for (int i = 0; i < numbers.length; i += 4) {
            x.line(numbers[i], numbers[i + 1], numbers[i + 2], numbers[i + 3]);
        }
    }

    /** SPACE lines of so many halves altogether. */
    static void space(PoolAssembler x, int halves) {
        for (int left = halves; left > 0; left -= 40) {
            x.line(13, Math.min(left, 40), 0, 0);
        }
    }

    static void refuses(String what, PoolAssembler x, int line) {
        dueThrow(what + ": assemble", ArithmeticException.class, x::assemble);
        due(what + ": refused", line, x.refused());
    }

    static void end() {
        System.out.println(asked + " answers asked, " + wrong + " wrong");
        if (wrong != 0) {
            System.exit(1);
        }
    }

    private Check() {
    }
}
