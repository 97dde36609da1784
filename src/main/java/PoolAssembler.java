import java.util.Arrays;

/** An assembler with constant pools for a small processor with instructions of two bytes, and the processor. */
public final class PoolAssembler {
    public static final int NONE = -1;

    private static final int MOST_LINES = 160;
    private static final int LABELS = 16;
    private static final int REGISTERS = 8;
    private static final int SMALL_NUMBERS = 256;
    private static final int WORDS = 32;
    private static final int MOST_SPACE = 40;
    private static final int MOST_FUEL = 5000;
    // The longest SPACE makes the most halves of all lines: a CONSTANT makes 5 at most, with a pool for it alone.
    private static final int MOST_HALVES = MOST_LINES * MOST_SPACE;

    private static final int KIND_LABEL = 0;
    private static final int KIND_MOVE = 1;
    private static final int KIND_COMPARE = 2;
    private static final int KIND_ADD_SMALL = 3;
    private static final int KIND_TAKE_SMALL = 4;
    private static final int KIND_ADD = 5;
    private static final int KIND_TAKE = 6;
    private static final int KIND_DO = 7;
    private static final int KIND_STORE = 8;
    private static final int KIND_LOAD = 9;
    private static final int KIND_CONSTANT = 10;
    private static final int KIND_BRANCH = 11;
    private static final int KIND_BRANCH_IF = 12;
    private static final int KIND_SPACE = 13;
    private static final int KIND_POOL = 14;
    private static final int KIND_HALT = 15;

    private static final int HALF_ADD = 6144;
    private static final int HALF_TAKE = 6656;
    private static final int HALF_SMALL = 8192;
    private static final int HALF_DO = 16384;
    private static final int HALF_NOTHING = 18112;
    private static final int HALF_CONSTANT = 18432;
    private static final int HALF_STORE = 24576;
    private static final int HALF_LOAD = 26624;
    private static final int HALF_HALT = 48640;
    private static final int HALF_BRANCH_IF = 53248;
    private static final int HALF_BRANCH = 57344;

    private static final int RUNNING = 0;
    private static final int HALTED = 1;
    private static final int FAULTED = 2;

    private final Source source;
    private final Image image;
    private final Layout layout;
    private final Processor processor;
    private int refusedLine;

    public PoolAssembler() {
        source = new Source();
        image = new Image();
        layout = new Layout(source, image);
        processor = new Processor(image);
        refusedLine = NONE;
    }

    public int line(int kind, int a, int b, int c) throws IllegalArgumentException, IllegalStateException {
        if (!Form.isLine(kind, a, b, c)) {
            throw new IllegalArgumentException("no such line");
        }
        if (!source.hasRoom()) {
            throw new IllegalStateException("no more lines");
        }
        if (kind == KIND_LABEL && source.lineOfLabel(a) != NONE) {
            throw new IllegalStateException("the label has a line");
        }
        return source.append(kind, a, b, c);
    }

    public void clear() {
        source.forget();
    }

    public int assemble() throws ArithmeticException {
        layout.measure();
        refusedLine = layout.firstOutOfReach();
        if (refusedLine != NONE) {
            throw new ArithmeticException("a line is refused");
        }
        layout.write();
        processor.begin();
        return image.count;
    }

    public int refused() {
        return refusedLine;
    }

    public short half(int k) {
        return image.at(k);
    }

    public int size() {
        return image.count;
    }

    public int pools() {
        return image.poolCount;
    }

    public int run(int fuel) throws IllegalArgumentException {
        if (fuel < 1 || fuel > MOST_FUEL) {
            throw new IllegalArgumentException("fuel is 1 .. 5000");
        }
        return processor.goOn(fuel);
    }

    public void restart() {
        processor.begin();
    }

    public int register(int r) throws IllegalArgumentException {
        if (r < 0 || r > REGISTERS + 1) {
            throw new IllegalArgumentException("no such register");
        }
        if (r == REGISTERS) {
            return processor.place;
        }
        return r < REGISTERS ? processor.registers[r] : processor.flags();
    }

    public int data(int k) {
        return k >= 0 && k < WORDS ? processor.words[k] : 0;
    }

    /** What lines and halves may look like. */
    private static final class Form {
        private static boolean isLine(int kind, int a, int b, int c) {
            switch (kind) {
                case KIND_LABEL:
                case KIND_BRANCH:
                    return isLabel(a);
                case KIND_MOVE:
                case KIND_COMPARE:
                case KIND_ADD_SMALL:
                case KIND_TAKE_SMALL:
                    return isRegister(a) && b >= 0 && b < SMALL_NUMBERS;
                case KIND_ADD:
                case KIND_TAKE:
                    return isRegister(a) && isRegister(b) && isRegister(c);
                case KIND_DO:
                    return isRegister(a) && isRegister(b) && isWork(c);
                case KIND_STORE:
                case KIND_LOAD:
                    return isRegister(a) && isRegister(b) && c >= 0 && c < WORDS;
                case KIND_CONSTANT:
                    return isRegister(a);
                case KIND_BRANCH_IF:
                    return isLabel(a) && isCondition(c);
                case KIND_SPACE:
                    return a >= 1 && a <= MOST_SPACE;
                case KIND_POOL:
                case KIND_HALT:
                    return true;
                default:
                    return false;
            }
        }

        private static boolean isLabel(int number) {
            return number >= 0 && number < LABELS;
        }

        private static boolean isRegister(int number) {
            return number >= 0 && number < REGISTERS;
        }

        private static boolean isWork(int c) {
            return c == 0 || c == 1 || c == 10 || c >= 12 && c <= 15;
        }

        private static boolean isCondition(int c) {
            return c >= 0 && c <= 5 || c >= 10 && c <= 13;
        }

        private static int upToFour(int address) {
            return (address + 3) & ~3;
        }

        private static int baseOf(int address) {
            return (address + 4) & ~3;
        }
    }

    /** The lines, and where each label has its line. */
    private static final class Source {
        private final int[] kinds = new int[MOST_LINES];
        private final int[] firsts = new int[MOST_LINES];
        private final int[] seconds = new int[MOST_LINES];
        private final int[] thirds = new int[MOST_LINES];
        private final int[] labelLines = new int[LABELS];
        private int count;

        private Source() {
            forget();
        }

        private void forget() {
            count = 0;
            Arrays.fill(labelLines, NONE);
        }

        private boolean hasRoom() {
            return count < MOST_LINES;
        }

        private int lineOfLabel(int label) {
            return label >= 0 && label < LABELS ? labelLines[label] : NONE;
        }

        private int append(int kind, int a, int b, int c) {
            int number = count;
            kinds[number] = kind;
            firsts[number] = a;
            seconds[number] = b;
            thirds[number] = c;
            if (kind == KIND_LABEL) {
                labelLines[a] = number;
            }
            count = number + 1;
            return number;
        }

        private int halvesOf(int line) {
            switch (kinds[line]) {
                case KIND_LABEL:
                case KIND_POOL:
                    return 0;
                case KIND_SPACE:
                    return firsts[line];
                default:
                    return 1;
            }
        }
    }

    /** The halves that the latest assemble made. */
    private static final class Image {
        private final short[] halves = new short[MOST_HALVES];
        private int count;
        private int poolCount;

        private short at(int k) {
            return k >= 0 && k < count ? halves[k] : 0;
        }

        private void put(int k, int value) {
            if (k >= 0 && k < MOST_HALVES) {
                halves[k] = (short) value;
            }
        }

        private boolean holds(int address) {
            return address >= 0 && address < 2 * count;
        }

        private int wordAt(int address) {
            int k = address / 2;
            return (at(k) & 0xFFFF) | (at(k + 1) << 16);
        }
    }

    /**
     * Goes through the source twice: first to find all addresses, then to write the image.
     * The first way writes nothing, so that a refused source leaves the image as it was.
     */
    private static final class Layout {
        private final Source source;
        private final Image image;
        private final int[] lineAt = new int[MOST_LINES];
        private final int[] constantAt = new int[MOST_LINES];
        private final int[] slots = new int[MOST_LINES];
        private final int[] waiting = new int[MOST_LINES];
        private int waitingCount;
        private int oldestLine;
        private int address;
        private int poolCount;
        private int lastKind;
        private boolean writing;

        private Layout(Source source, Image image) {
            this.source = source;
            this.image = image;
        }

        private void measure() {
            writing = false;
            layAll();
            settleLabels();
        }

        private void write() {
            writing = true;
            layAll();
            image.count = address / 2;
            image.poolCount = poolCount;
        }

        private void layAll() {
            address = 0;
            poolCount = 0;
            waitingCount = 0;
            lastKind = NONE;
            for (int i = 0; i < source.count; i++) {
                layLine(i);
            }
            putPool(source.count);
        }

        private void layLine(int line) {
            int kind = source.kinds[line];
            int halves = source.halvesOf(line);
            for (int k = 0; k < halves; k++) {
                if (isPoolDue()) {
                    putPool(line);
                }
                if (k == 0) {
                    lineAt[line] = address;
                }
                putHalf(writing ? halfOf(line) : 0);
                lastKind = kind;
            }
            if (kind == KIND_CONSTANT) {
                letWait(line);
            } else if (kind == KIND_POOL) {
                putPool(line);
            }
        }

        private void letWait(int line) {
            if (waitingCount == 0) {
                oldestLine = line;
            }
            int value = source.seconds[line];
            int slot = 0;
            while (slot < waitingCount && waiting[slot] != value) {
                slot++;
            }
            slots[line] = slot;
            if (slot == waitingCount && waitingCount < MOST_LINES) {
                waiting[slot] = value;
                waitingCount++;
            }
        }

        private boolean isPoolDue() {
            return waitingCount > 0
                    && Form.upToFour(address + 4) - Form.baseOf(lineAt[oldestLine]) > 1020;
        }

        /** Puts the constants of the lines before nextLine that wait, if any do. */
        private void putPool(int nextLine) {
            if (waitingCount == 0) {
                return;
            }
            if (lastKind != KIND_BRANCH && lastKind != KIND_HALT) {
                int behind = Form.upToFour(address + 2) + 4 * waitingCount;
                putHalf(HALF_BRANCH + (stepsFrom(address, behind) & 2047));
            }
            if (address % 4 != 0) {
                putHalf(HALF_NOTHING);
            }
            for (int i = oldestLine; i < nextLine; i++) {
                if (source.kinds[i] == KIND_CONSTANT) {
                    constantAt[i] = address + 4 * slots[i];
                }
            }
            for (int k = 0; k < waitingCount; k++) {
                putHalf(waiting[k]);
                putHalf(waiting[k] >> 16);
            }
            waitingCount = 0;
            poolCount++;
        }

        private void putHalf(int value) {
            if (writing) {
                image.put(address / 2, value);
            }
            address += 2;
        }

        /** A pool may come between a label and its half, so labels are settled when all halves are. */
        private void settleLabels() {
            int next = address;
            for (int i = source.count - 1; i >= 0; i--) {
                if (source.halvesOf(i) > 0) {
                    next = lineAt[i];
                } else {
                    lineAt[i] = next;
                }
            }
        }

        private int firstOutOfReach() {
            for (int i = 0; i < source.count; i++) {
                if (!isInReach(i)) {
                    return i;
                }
            }
            return NONE;
        }

        private boolean isInReach(int line) {
            switch (source.kinds[line]) {
                case KIND_CONSTANT:
                    return wordsToConstant(line) >= 0 && wordsToConstant(line) <= 255;
                case KIND_BRANCH:
                    return hasTarget(line) && stepsToLabel(line) >= -1024 && stepsToLabel(line) <= 1023;
                case KIND_BRANCH_IF:
                    return hasTarget(line) && stepsToLabel(line) >= -128 && stepsToLabel(line) <= 127;
                default:
                    return true;
            }
        }

        private boolean hasTarget(int line) {
            return source.lineOfLabel(source.firsts[line]) != NONE;
        }

        private int wordsToConstant(int line) {
            return (constantAt[line] - Form.baseOf(lineAt[line])) / 4;
        }

        private int stepsToLabel(int line) {
            int labelLine = source.lineOfLabel(source.firsts[line]);
            return labelLine == NONE ? 0 : stepsFrom(lineAt[line], lineAt[labelLine]);
        }

        private static int stepsFrom(int branch, int target) {
            return (target - branch - 4) / 2;
        }

        private int halfOf(int line) {
            int kind = source.kinds[line];
            int a = source.firsts[line];
            int b = source.seconds[line];
            int c = source.thirds[line];
            switch (kind) {
                case KIND_MOVE:
                case KIND_COMPARE:
                case KIND_ADD_SMALL:
                case KIND_TAKE_SMALL:
                    return HALF_SMALL + 2048 * (kind - KIND_MOVE) + 256 * a + b;
                case KIND_ADD:
                    return HALF_ADD + 64 * c + 8 * b + a;
                case KIND_TAKE:
                    return HALF_TAKE + 64 * c + 8 * b + a;
                case KIND_DO:
                    return HALF_DO + 64 * c + 8 * b + a;
                case KIND_STORE:
                    return HALF_STORE + 64 * c + 8 * b + a;
                case KIND_LOAD:
                    return HALF_LOAD + 64 * c + 8 * b + a;
                case KIND_CONSTANT:
                    return HALF_CONSTANT + 256 * a + wordsToConstant(line);
                case KIND_BRANCH:
                    return HALF_BRANCH + (stepsToLabel(line) & 2047);
                case KIND_BRANCH_IF:
                    return HALF_BRANCH_IF + 256 * c + (stepsToLabel(line) & 255);
                case KIND_HALT:
                    return HALF_HALT;
                default:
                    return HALF_NOTHING;
            }
        }
    }

    /** Runs the image. */
    private static final class Processor {
        private static final int DATA_START = 4096;
        private static final long LOWEST_32_BITS = 0xFFFFFFFFL;

        private final Image image;
        private final int[] registers = new int[REGISTERS];
        private final int[] words = new int[WORDS];
        private int place;
        private int ended;
        private boolean negative;
        private boolean zero;
        private boolean carry;
        private boolean overflow;

        private Processor(Image image) {
            this.image = image;
        }

        private void begin() {
            Arrays.fill(registers, 0);
            Arrays.fill(words, 0);
            place = 0;
            ended = RUNNING;
            negative = false;
            zero = false;
            carry = false;
            overflow = false;
        }

        private int flags() {
            return (negative ? 8 : 0) + (zero ? 4 : 0) + (carry ? 2 : 0) + (overflow ? 1 : 0);
        }

        private int goOn(int fuel) {
            for (int i = 0; i < fuel && ended == RUNNING; i++) {
                ended = image.holds(place) ? perform(image.at(place / 2) & 0xFFFF) : FAULTED;
            }
            return ended;
        }

        /** The five highest bits tell the instructions apart; where not all that share them are made, more is asked. */
        private int perform(int half) {
            switch (half >> 11) {
                case HALF_ADD >> 11:
                    return addOrTake(half);
                case HALF_SMALL >> 11:
                case (HALF_SMALL >> 11) + 1:
                case (HALF_SMALL >> 11) + 2:
                case (HALF_SMALL >> 11) + 3:
                    return workWithSmall(half);
                case HALF_DO >> 11:
                    return half == HALF_NOTHING ? next() : work(half);
                case HALF_CONSTANT >> 11:
                    return loadConstant(half);
                case HALF_STORE >> 11:
                case HALF_LOAD >> 11:
                    return storeOrLoad(half);
                case HALF_HALT >> 11:
                    return half == HALF_HALT ? HALTED : FAULTED;
                case HALF_BRANCH_IF >> 11:
                case (HALF_BRANCH_IF >> 11) + 1:
                    return branchIf(half);
                case HALF_BRANCH >> 11:
                    return branch((half << 21) >> 21);
                default:
                    return FAULTED;
            }
        }

        private int next() {
            place += 2;
            return RUNNING;
        }

        private int branch(int steps) {
            place += 4 + 2 * steps;
            return RUNNING;
        }

        private int branchIf(int half) {
            int condition = (half >> 8) & 15;
            if (!Form.isCondition(condition)) {
                return FAULTED;
            }
            return holds(condition) ? branch((byte) half) : next();
        }

        /** An odd condition is the contrary of the even one before it. */
        private boolean holds(int condition) {
            boolean contrary = condition % 2 == 1;
            switch (condition / 2) {
                case 0:
                    return zero != contrary;
                case 1:
                    return carry != contrary;
                case 2:
                    return negative != contrary;
                case 5:
                    return (negative == overflow) != contrary;
                default:
                    return (!zero && negative == overflow) != contrary;
            }
        }

        private int addOrTake(int half) {
            if (half >= HALF_TAKE + 512) {
                return FAULTED;
            }
            int x = registers[(half >> 3) & 7];
            int y = registers[(half >> 6) & 7];
            registers[half & 7] = half < HALF_TAKE ? sum(x, y) : difference(x, y);
            return next();
        }

        private int workWithSmall(int half) {
            int a = (half >> 8) & 7;
            int small = half & 255;
            switch (KIND_MOVE + ((half - HALF_SMALL) >> 11)) {
                case KIND_MOVE:
                    registers[a] = noted(small);
                    break;
                case KIND_COMPARE:
                    difference(registers[a], small);
                    break;
                case KIND_ADD_SMALL:
                    registers[a] = sum(registers[a], small);
                    break;
                default:
                    registers[a] = difference(registers[a], small);
                    break;
            }
            return next();
        }

        private int work(int half) {
            int a = half & 7;
            int x = registers[a];
            int y = registers[(half >> 3) & 7];
            switch ((half - HALF_DO) >> 6) {
                case 0:
                    registers[a] = noted(x & y);
                    break;
                case 1:
                    registers[a] = noted(x ^ y);
                    break;
                case 10:
                    difference(x, y);
                    break;
                case 12:
                    registers[a] = noted(x | y);
                    break;
                case 13:
                    registers[a] = noted(x * y);
                    break;
                case 14:
                    registers[a] = noted(x & ~y);
                    break;
                case 15:
                    registers[a] = noted(~y);
                    break;
                default:
                    return FAULTED;
            }
            return next();
        }

        private int noted(int result) {
            negative = result < 0;
            zero = result == 0;
            return result;
        }

        private int sum(int x, int y) {
            int result = x + y;
            carry = (x & LOWEST_32_BITS) + (y & LOWEST_32_BITS) > LOWEST_32_BITS;
            overflow = ((x ^ result) & (y ^ result)) < 0;
            return noted(result);
        }

        private int difference(int x, int y) {
            int result = x - y;
            carry = (x & LOWEST_32_BITS) >= (y & LOWEST_32_BITS);
            overflow = ((x ^ y) & (x ^ result)) < 0;
            return noted(result);
        }

        private int loadConstant(int half) {
            int address = Form.baseOf(place) + 4 * (half & 255);
            if (!image.holds(address) || !image.holds(address + 2)) {
                return FAULTED;
            }
            registers[(half >> 8) & 7] = image.wordAt(address);
            return next();
        }

        private int storeOrLoad(int half) {
            int distance = registers[(half >> 3) & 7] + 4 * ((half >> 6) & 31) - DATA_START;
            if (distance % 4 != 0 || distance < 0 || distance >= 4 * WORDS) {
                return FAULTED;
            }
            if (half < HALF_LOAD) {
                words[distance / 4] = registers[half & 7];
            } else {
                registers[half & 7] = words[distance / 4];
            }
            return next();
        }
    }
}
