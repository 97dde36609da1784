import java.math.BigInteger;
import java.util.ArrayList;
import java.util.HashMap;
import java.util.HashSet;
import java.util.LinkedHashSet;
import java.util.List;
import java.util.Map;
import java.util.Set;

/**
 * The document told a second time, for ModelTest and AnyCallTest: the image is a list of halves that know where they
 * come from, a half is understood by looking it up among all that lines can make, and flags are reckoned with numbers
 * of any size.
 */
final class Model {
    /** One half: its value, the line that made it (-1 for a pool's), and whether it is that line's first. */
    private record Half(int value, int line, boolean first) {
    }

    private record Row(int kind, int a, int b, int c) {
    }

    private static final Set<Integer> ANY = Set.of();
    private static final Set<Integer> REGISTER = range(0, 7);
    private static final Set<Integer> LABEL = range(0, 15);
    private static final Set<Integer> SMALL = range(0, 255);
    private static final Set<Integer> OFFSET = range(0, 31);

    /** What a, b and c may be, kind by kind, as far as it is named. */
    private static final List<List<Set<Integer>>> NUMBERS = List.of(
        List.of(LABEL),
        List.of(REGISTER, SMALL), List.of(REGISTER, SMALL), List.of(REGISTER, SMALL), List.of(REGISTER, SMALL),
        List.of(REGISTER, REGISTER, REGISTER), List.of(REGISTER, REGISTER, REGISTER),
        List.of(REGISTER, REGISTER, Set.of(0, 1, 10, 12, 13, 14, 15)),
        List.of(REGISTER, REGISTER, OFFSET), List.of(REGISTER, REGISTER, OFFSET),
        List.of(REGISTER),
        List.of(LABEL), List.of(LABEL, ANY, Set.of(0, 1, 2, 3, 4, 5, 10, 11, 12, 13)),
        List.of(range(1, 40)),
        List.of(), List.of());

    private static final BigInteger TWO_32 = BigInteger.ONE.shiftLeft(32);
    private static final Map<Integer, Row> MEANINGS = meanings();

    private final List<Row> source = new ArrayList<>();
    private int[] image = {};
    private int poolsOfImage = 0;
    private int refused = -1;

    private final int[] registers = new int[8];
    private final int[] data = new int[32];
    private int place;
    private boolean n;
    private boolean z;
    private boolean c;
    private boolean v;
    private int ended;

    // While an image is made:
    private List<Half> halves;
    private List<Integer> waitingLines;
    private Map<Integer, Integer> constantAddresses;
    private int pools;

    /** Whether a line is as said; a and b and c are held against the ranges of their kind. */
    static boolean isAsSaid(int kind, int a, int b, int c) {
        if (kind < 0 || kind >= NUMBERS.size()) {
            return false;
        }
        List<Set<Integer>> numbers = NUMBERS.get(kind);
        int[] row = {a, b, c};
        for (int i = 0; i < numbers.size(); i++) {
            if (numbers.get(i) != ANY && !numbers.get(i).contains(row[i])) {
                return false;
            }
        }
        return true;
    }

    private static Set<Integer> range(int first, int last) {
        Set<Integer> numbers = new HashSet<>();
        for (int n = first; n <= last; n++) {
            numbers.add(n);
        }
        return numbers;
    }

    int line(int kind, int a, int b, int c) {
        source.add(new Row(kind, a, b, c));
        return source.size() - 1;
    }

    boolean hasLabel(int label) {
        return source.stream().anyMatch(row -> row.kind == 0 && row.a == label);
    }

    int lines() {
        return source.size();
    }

    void clear() {
        source.clear();
    }

    int refused() {
        return refused;
    }

    int size() {
        return image.length;
    }

    int pools() {
        return poolsOfImage;
    }

    int half(int k) {
        return k >= 0 && k < image.length ? (short) image[k] : 0;
    }

    /** How many halves, or -1 if a line is refused. */
    int assemble() {
        halves = new ArrayList<>();
        waitingLines = new ArrayList<>();
        constantAddresses = new HashMap<>();
        pools = 0;
        for (int i = 0; i < source.size(); i++) {
            place(i);
        }
        pool();
        int[] made = halves.stream().mapToInt(Half::value).toArray();
        refused = -1;
        for (int i = source.size() - 1; i >= 0; i--) {
            if (!finish(i, made)) {
                refused = i;
            }
        }
        if (refused >= 0) {
            return -1;
        }
        image = made;
        poolsOfImage = pools;
        restart();
        return image.length;
    }

    /** An image that no source made. */
    void take(int... made) {
        image = made;
        restart();
    }

    private void place(int i) {
        Row row = source.get(i);
        if (row.kind == 14) {
            pool();
        }
        int many = row.kind == 13 ? row.a : row.kind == 0 || row.kind == 14 ? 0 : 1;
        for (int k = 0; k < many; k++) {
            if (!waitingLines.isEmpty()) {
                int f = 2 * halves.size() + 4;
                f += f % 4 == 0 ? 0 : 2;
                if (f - base(addressOfLine(waitingLines.get(0))) > 1020) {
                    pool();
                }
            }
            halves.add(new Half(bare(row, 0), i, k == 0));
        }
        if (row.kind == 10) {
            waitingLines.add(i);
        }
    }

    private void pool() {
        if (waitingLines.isEmpty()) {
            return;
        }
        LinkedHashSet<Integer> values = new LinkedHashSet<>();
        waitingLines.forEach(line -> values.add(source.get(line).b));
        int lastKind = source.get(halves.get(halves.size() - 1).line).kind;
        List<Half> body = new ArrayList<>();
        int branches = lastKind == 11 || lastKind == 15 ? 0 : 1;
        if ((halves.size() + branches) % 2 == 1) {
            body.add(new Half(18112, -1, false));
        }
        int start = 2 * (halves.size() + branches + body.size());
        List<Integer> order = new ArrayList<>(values);
        for (int value : order) {
            body.add(new Half(value & 65535, -1, false));
            body.add(new Half(value >>> 16, -1, false));
        }
        if (branches == 1) {
            // The branch is 2 bytes before the body, so S is the body's halves, less 1.
            halves.add(new Half(57344 + body.size() - 1, -1, false));
        }
        halves.addAll(body);
        waitingLines.forEach(line -> constantAddresses.put(line, start + 4 * order.indexOf(source.get(line).b)));
        waitingLines.clear();
        pools++;
    }

    private static int base(int address) {
        int base = address + 4;
        return base % 4 == 0 ? base : base - 2;
    }

    private int addressOfLine(int line) {
        for (int k = 0; k < halves.size(); k++) {
            if (halves.get(k).line == line && halves.get(k).first) {
                return 2 * k;
            }
        }
        throw new AssertionError("line " + line + " has no half");
    }

    private int addressOfLabel(int label) {
        for (int i = 0; i < source.size(); i++) {
            if (source.get(i).kind == 0 && source.get(i).a == label) {
                for (int k = 0; k < halves.size(); k++) {
                    if (halves.get(k).line > i) {
                        return 2 * k;
                    }
                }
                return 2 * halves.size();
            }
        }
        return -1;
    }

    /** Puts W or S into the half of line i; false if it is refused. */
    private boolean finish(int i, int[] made) {
        Row row = source.get(i);
        if (row.kind < 10 || row.kind > 12) {
            return true;
        }
        int address = addressOfLine(i);
        int number;
        if (row.kind == 10) {
            int distance = constantAddresses.get(i) - base(address);
            if (distance % 4 != 0) {
                throw new AssertionError("a constant at no multiple of 4");
            }
            number = distance / 4;
        } else {
            int target = addressOfLabel(row.a);
            if (target < 0) {
                return false;
            }
            number = (target - address - 4) / 2;
        }
        int low = row.kind == 10 ? 0 : row.kind == 11 ? -1024 : -128;
        int high = row.kind == 10 ? 255 : row.kind == 11 ? 1023 : 127;
        if (number < low || number > high) {
            return false;
        }
        made[address / 2] = bare(row, number);
        return true;
    }

    /** The half of a line, with this W or S. */
    private static int bare(Row row, int number) {
        int kind = row.kind;
        int threes = 64 * row.c + 8 * row.b + row.a;
        return switch (kind) {
            case 1 -> 8192 + 256 * row.a + row.b;
            case 2 -> 10240 + 256 * row.a + row.b;
            case 3 -> 12288 + 256 * row.a + row.b;
            case 4 -> 14336 + 256 * row.a + row.b;
            case 5 -> 6144 + threes;
            case 6 -> 6656 + threes;
            case 7 -> 16384 + threes;
            case 8 -> 24576 + threes;
            case 9 -> 26624 + threes;
            case 10 -> 18432 + 256 * row.a + number;
            case 11 -> 57344 + Math.floorMod(number, 2048);
            case 12 -> 53248 + 256 * row.c + Math.floorMod(number, 256);
            case 13 -> 18112;
            case 15 -> 48640;
            default -> throw new AssertionError("kind " + kind + " makes no half");
        };
    }

    /** Every half that a line can make; W or S is in b. */
    private static Map<Integer, Row> meanings() {
        Map<Integer, Row> map = new HashMap<>();
        int[] works = {0, 1, 10, 12, 13, 14, 15};
        int[] conditions = {0, 1, 2, 3, 4, 5, 10, 11, 12, 13};
        for (int a = 0; a < 8; a++) {
            for (int b = 0; b < 256; b++) {
                for (int kind = 1; kind <= 4; kind++) {
                    put(map, new Row(kind, a, b, 0), 0);
                }
                put(map, new Row(10, a, b, 0), b);
            }
            for (int b = 0; b < 8; b++) {
                for (int c = 0; c < 32; c++) {
                    put(map, new Row(8, a, b, c), 0);
                    put(map, new Row(9, a, b, c), 0);
                    if (c < 8) {
                        put(map, new Row(5, a, b, c), 0);
                        put(map, new Row(6, a, b, c), 0);
                    }
                }
                for (int c : works) {
                    put(map, new Row(7, a, b, c), 0);
                }
            }
        }
        for (int s = -1024; s <= 1023; s++) {
            put(map, new Row(11, 0, s, 0), s);
        }
        for (int s = -128; s <= 127; s++) {
            for (int c : conditions) {
                put(map, new Row(12, 0, s, c), s);
            }
        }
        put(map, new Row(13, 1, 0, 0), 0);
        put(map, new Row(15, 0, 0, 0), 0);
        return map;
    }

    private static void put(Map<Integer, Row> map, Row row, int number) {
        if (map.put(bare(row, number), row) != null) {
            throw new AssertionError("two lines make the same half: " + row);
        }
    }

    void restart() {
        java.util.Arrays.fill(registers, 0);
        java.util.Arrays.fill(data, 0);
        place = 0;
        n = false;
        z = false;
        c = false;
        v = false;
        ended = 0;
    }

    int register(int r) {
        if (r == 8) {
            return place;
        }
        return r < 8 ? registers[r] : (n ? 8 : 0) + (z ? 4 : 0) + (c ? 2 : 0) + (v ? 1 : 0);
    }

    int data(int k) {
        return k >= 0 && k < 32 ? data[k] : 0;
    }

    int run(int fuel) {
        for (int i = 0; i < fuel && ended == 0; i++) {
            step();
        }
        return ended;
    }

    private void step() {
        Row row = place < 0 || place >= 2 * image.length ? null : MEANINGS.get(image[place / 2]);
        if (row == null) {
            ended = 2;
            return;
        }
        int next = place + 2;
        switch (row.kind) {
            case 1 -> registers[row.a] = result(row.b);
            case 2 -> reckon(registers[row.a], row.b, true);
            case 3 -> registers[row.a] = reckon(registers[row.a], row.b, false);
            case 4 -> registers[row.a] = reckon(registers[row.a], row.b, true);
            case 5 -> registers[row.a] = reckon(registers[row.b], registers[row.c], false);
            case 6 -> registers[row.a] = reckon(registers[row.b], registers[row.c], true);
            case 7 -> work(row, registers[row.a], registers[row.b]);
            case 8, 9 -> {
                long address = (long) registers[row.b] + 4 * row.c;
                if (address < 4096 || address > 4220 || address % 4 != 0) {
                    ended = 2;
                    return;
                }
                int k = (int) (address - 4096) / 4;
                if (row.kind == 8) {
                    data[k] = registers[row.a];
                } else {
                    registers[row.a] = data[k];
                }
            }
            case 10 -> {
                int k = (base(place) + 4 * row.b) / 2;
                if (k + 1 >= image.length) {
                    ended = 2;
                    return;
                }
                registers[row.a] = image[k] + (image[k + 1] << 16);
            }
            case 11 -> next = place + 4 + 2 * row.b;
            case 12 -> next = goes(row.c) ? place + 4 + 2 * row.b : next;
            case 15 -> {
                ended = 1;
                return;
            }
            default -> { }
        }
        place = next;
    }

    private int result(int number) {
        n = number < 0;
        z = number == 0;
        return number;
    }

    private int reckon(int x, int y, boolean difference) {
        BigInteger signed = difference
            ? BigInteger.valueOf(x).subtract(BigInteger.valueOf(y)) : BigInteger.valueOf(x).add(BigInteger.valueOf(y));
        BigInteger ux = BigInteger.valueOf(x).mod(TWO_32);
        BigInteger uy = BigInteger.valueOf(y).mod(TWO_32);
        c = difference ? ux.compareTo(uy) >= 0 : ux.add(uy).compareTo(TWO_32) >= 0;
        v = signed.bitLength() > 31;
        return result(signed.intValue());
    }

    private void work(Row row, int x, int y) {
        switch (row.c) {
            case 0 -> registers[row.a] = result(x & y);
            case 1 -> registers[row.a] = result(x ^ y);
            case 10 -> reckon(x, y, true);
            case 12 -> registers[row.a] = result(x | y);
            case 13 -> registers[row.a] = result(BigInteger.valueOf(x).multiply(BigInteger.valueOf(y)).intValue());
            case 14 -> registers[row.a] = result(x - (x & y));
            default -> registers[row.a] = result(-1 - y);
        }
    }

    private boolean goes(int condition) {
        return switch (condition) {
            case 0 -> z;
            case 1 -> !z;
            case 2 -> c;
            case 3 -> !c;
            case 4 -> n;
            case 5 -> !n;
            case 10 -> n == v;
            case 11 -> n != v;
            case 12 -> !z && n == v;
            default -> z || n != v;
        };
    }
}
