/**
 * Draws small things of cars by a seed, plants a fault in every second one, tells their texts,
 * and makes them smaller as long as a verdict stays.
 */
public final class CarDrawer {
    private static final int CHART = 0;
    private static final int MATRIX = 1;
    private static final int BUS = 2;
    private static final int DRIVE = 3;
    private static final int PACKAGE = 4;
    private static final int KINDS = 6;

    private static final int[] SORTS = {4, 3, 5, 6, 4, 7};
    private static final int[] FAULTS = {3, 2, 4, 3, 5, 2};

    private static final int MOST_SIZE = 20;
    private static final int MOST_PARTS = 2 * MOST_SIZE;
    private static final int SIGNATURES = 64;
    private static final int MOST_DIGITS = 10;

    private static final int UNKNOWN = -1;
    private static final int OUTSIDE = -2;
    private static final int NOT_NOW = -3;

    private final long seed;
    private final Draws draws;
    private final Rest rest;
    private final Drawing drawing;
    private final Verdict saying;
    // Held for same() alone, so that its calls make no rows of their own.
    private final Draws trialDraws;
    private final Drawing mine;
    private final Drawing theirs;

    public CarDrawer(long seed) {
        this.seed = seed;
        draws = new Draws(seed);
        rest = new Rest();
        drawing = rest.drawing;
        saying = rest.saying;
        trialDraws = new Draws(seed);
        mine = new Drawing();
        theirs = new Drawing();
    }

    public int draw(int kind, int size) {
        if (!isKind(kind)) {
            return UNKNOWN;
        }
        if (!isSize(size)) {
            return OUTSIDE;
        }
        drawing.fill(kind, size, draws);
        rest.takeAll();
        return drawing.count;
    }

    public long part(int i, int what) {
        if (!drawing.has(i)) {
            return UNKNOWN;
        }
        if (what == 4) {
            return rest.holds(i) ? 1 : 0;
        }
        if (what < 0 || what > 4) {
            return OUTSIDE;
        }
        return drawing.number(i, what);
    }

    public int letter(int i) {
        return rest.letterAt(i);
    }

    public int planted(int what) {
        switch (what) {
            case 0:
                return drawing.fault;
            case 1:
                return drawing.faultPart;
            case 2:
                return rest.signature();
            default:
                return OUTSIDE;
        }
    }

    public void verdict(int bits, boolean stays) {
        saying.say(bits, stays);
    }

    public int shorter() {
        if (drawing.count == 0) {
            return NOT_NOW;
        }
        rest.shorten();
        return rest.count;
    }

    public int left(int i) {
        return rest.numberAt(i);
    }

    public boolean minimal() {
        return drawing.count > 0 && rest.isMinimal();
    }

    public boolean answers() {
        return drawing.count > 0 && drawing.hasEvenSum();
    }

    public boolean same(long other, int kind, int size) {
        if (!isKind(kind) || !isSize(size)) {
            return false;
        }
        trialDraws.startAt(seed);
        mine.fill(kind, size, trialDraws);
        trialDraws.startAt(other);
        theirs.fill(kind, size, trialDraws);
        return mine.equalTo(theirs);
    }

    private static boolean isKind(int kind) {
        return kind >= 0 && kind < KINDS;
    }

    private static boolean isSize(int size) {
        return size >= 0 && size <= MOST_SIZE;
    }

    /** The STATE, and the numbers that are drawn from it. */
    private static final class Draws {
        private long state;

        Draws(long state) {
            this.state = state;
        }

        void startAt(long newState) {
            state = newState;
        }

        int below(int n) {
            state = 6364136223846793005L * state + 1442695040888963407L;
            // 31 bits are what the shift leaves, so they fit an int without a sign.
            int bits = (int) (state >>> 33);
            return n > 0 ? bits % n : 0;
        }
    }

    /** The PARTS of one DRAWING and its FAULT; without PARTS, nothing is drawn yet. */
    private static final class Drawing {
        private final int[] sort = new int[MOST_PARTS];
        private final int[] x = new int[MOST_PARTS];
        private final int[] y = new int[MOST_PARTS];
        private final int[] z = new int[MOST_PARTS];
        private int count = 0;
        private int fault = 0;
        private int faultPart = -1;

        void fill(int kind, int size, Draws draws) {
            fault = 0;
            faultPart = -1;
            if (size <= 0 || size > MOST_SIZE || !isKind(kind)) {
                fillWithNought();
                return;
            }
            count = size + draws.below(size + 1);
            for (int i = 0; i < count; i++) {
                sort[i] = draws.below(SORTS[kind]);
                x[i] = drawX(kind, i, draws);
                y[i] = drawY(kind, i, draws);
                z[i] = draws.below(1000);
            }
            plant(kind, draws);
        }

        private void fillWithNought() {
            count = 1;
            sort[0] = 0;
            x[0] = 0;
            y[0] = 0;
            z[0] = 0;
        }

        private int drawX(int kind, int i, Draws draws) {
            switch (kind) {
                case CHART:
                case DRIVE:
                    return draws.below(i + 1);
                case MATRIX:
                    return 8 * draws.below(8);
                case BUS:
                    return (i > 0 ? x[i - 1] : 0) + 1 + draws.below(16);
                case PACKAGE:
                    return draws.below(256);
                default:
                    return 16 * draws.below(4) + sort[i];
            }
        }

        private int drawY(int kind, int i, Draws draws) {
            if (kind != CHART || sort[i] != 3) {
                return draws.below(64);
            }
            // The row still holds an older DRAWING's Y at i, so the PART itself must not be read.
            int from = x[i];
            return from >= 0 && from < i ? y[from] : 0;
        }

        private void plant(int kind, Draws draws) {
            int f = draws.below(2 * FAULTS[kind]);
            if (f < FAULTS[kind]) {
                return;
            }
            fault = f - FAULTS[kind] + 1;
            faultPart = draws.below(count);
            spoil(faultPart, SORTS[kind]);
        }

        private void spoil(int i, int sortBeyond) {
            switch (fault) {
                case 1:
                    x[i] += 1000;
                    break;
                case 2:
                    y[i] = -1 - y[i];
                    break;
                case 3:
                    z[i] += 1000;
                    break;
                case 4:
                    sort[i] = sortBeyond;
                    break;
                default:
                    x[i] = 0;
                    y[i] = 0;
                    z[i] = 0;
            }
        }

        boolean has(int i) {
            return i >= 0 && i < count;
        }

        /** What = 0 the SORT, 1 X, 2 Y, 3 Z of a PART that there is. */
        int number(int i, int what) {
            switch (what) {
                case 0:
                    return sort[i];
                case 1:
                    return x[i];
                case 2:
                    return y[i];
                default:
                    return z[i];
            }
        }

        boolean hasEvenSum() {
            int sum = 0;
            for (int i = 0; i < count; i++) {
                sum += z[i];
            }
            return sum % 2 == 0;
        }

        boolean equalTo(Drawing other) {
            if (count != other.count || fault != other.fault) {
                return false;
            }
            for (int i = 0; i < count; i++) {
                if (sort[i] != other.sort[i] || x[i] != other.x[i]
                        || y[i] != other.y[i] || z[i] != other.z[i]) {
                    return false;
                }
            }
            return true;
        }
    }

    /** Which SIGNATURES stay. */
    private static final class Verdict {
        private final boolean[] staying = new boolean[SIGNATURES];

        void say(int signature, boolean stays) {
            if (isSignature(signature)) {
                staying[signature] = stays;
            }
        }

        boolean keeps(int signature) {
            return isSignature(signature) && staying[signature];
        }

        private static boolean isSignature(int bits) {
            return bits >= 0 && bits < SIGNATURES;
        }
    }

    /** What is LEFT of a DRAWING: the numbers of its PARTS, in order. */
    private static final class Rest {
        // Made here, so that CarDrawer's constructor hands out nothing before it has ended.
        private final Drawing drawing = new Drawing();
        private final Verdict saying = new Verdict();
        private final int[] numbers = new int[MOST_PARTS];
        private int count = 0;

        void takeAll() {
            count = drawing.count;
            for (int i = 0; i < count; i++) {
                numbers[i] = i;
            }
        }

        int numberAt(int i) {
            return i >= 0 && i < count ? numbers[i] : UNKNOWN;
        }

        boolean holds(int number) {
            for (int i = 0; i < count; i++) {
                if (numbers[i] == number) {
                    return true;
                }
            }
            return false;
        }

        int signature() {
            return signatureWithout(0, 0);
        }

        /** The SIGNATURE of those LEFT but for the places from .. to - 1. */
        private int signatureWithout(int from, int to) {
            int bits = 0;
            int sum = 0;
            for (int i = 0; i < count; i++) {
                if (i < from || i >= to) {
                    int number = numbers[i];
                    bits |= 1 << (drawing.sort[number] % 4);
                    bits |= number == drawing.faultPart ? 16 : 0;
                    sum += drawing.z[number];
                }
            }
            return bits | (sum % 2 == 0 ? 0 : 32);
        }

        private boolean canGo(int from, int to) {
            return to - from < count && saying.keeps(signatureWithout(from, to));
        }

        boolean isMinimal() {
            if (!saying.keeps(signature())) {
                return false;
            }
            for (int i = 0; i < count; i++) {
                if (canGo(i, i + 1)) {
                    return false;
                }
            }
            return true;
        }

        void shorten() {
            if (!saying.keeps(signature())) {
                return;
            }
            for (int width = count / 2; width >= 1; width = width / 2) {
                boolean leftOut = leaveOutRows(width);
                for (int i = 0; i < MOST_PARTS && width == 1 && leftOut; i++) {
                    leftOut = leaveOutRows(1);
                }
            }
        }

        /** Goes once over those LEFT; whether some were left out. */
        private boolean leaveOutRows(int width) {
            boolean leftOut = false;
            int at = 0;
            for (int i = 0; i < MOST_PARTS && at < count; i++) {
                int end = Math.min(at + width, count);
                if (canGo(at, end)) {
                    takeOut(at, end);
                    leftOut = true;
                } else {
                    at = end;
                }
            }
            return leftOut;
        }

        private void takeOut(int from, int to) {
            int gap = to - from;
            for (int i = to; i < count; i++) {
                numbers[i - gap] = numbers[i];
            }
            count -= gap;
        }

        /** A walk over the lines' lengths, so that no text is ever made. */
        int letterAt(int i) {
            int behind = i;
            for (int k = 0; k < count && behind >= 0; k++) {
                int length = lineLength(numbers[k]);
                if (behind < length) {
                    return letterOfLine(numbers[k], behind);
                }
                behind -= length;
            }
            return UNKNOWN;
        }

        private int lineLength(int number) {
            int length = 2;
            for (int what = 1; what <= 3; what++) {
                length += 1 + Tens.length(drawing.number(number, what));
            }
            return length;
        }

        private int letterOfLine(int number, int i) {
            if (i == 0) {
                return 'a' + drawing.sort[number];
            }
            int behind = i - 1;
            for (int what = 1; what <= 3; what++) {
                int value = drawing.number(number, what);
                int length = 1 + Tens.length(value);
                if (behind < length) {
                    return behind == 0 ? ' ' : Tens.letterAt(value, behind - 1);
                }
                behind -= length;
            }
            return '\n';
        }
    }

    /** How a number is written in tens. */
    private static final class Tens {
        static int length(int value) {
            return digits(value) + (value < 0 ? 1 : 0);
        }

        static int letterAt(int value, int i) {
            if (value < 0 && i == 0) {
                return '-';
            }
            int shifted = value;
            int behind = length(value) - 1 - i;
            for (int k = 0; k < behind && k < MOST_DIGITS; k++) {
                shifted = shifted / 10;
            }
            return '0' + Math.abs(shifted % 10);
        }

        private static int digits(int value) {
            int digits = 1;
            int shifted = value / 10;
            for (int k = 0; k < MOST_DIGITS && shifted != 0; k++) {
                digits++;
                shifted = shifted / 10;
            }
            return digits;
        }
    }
}
