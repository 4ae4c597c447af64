/**
 * Ranges of ints with ends of a given set (the thresholds), and what operations of 32 bits make of
 * them: for each number of the one and each number of the other the result lies in what is told.
 */
public final class RangeRules {
    private static final int PLUS = 0;
    private static final int MINUS = 1;
    private static final int TIMES = 2;
    private static final int DIVIDE = 3;
    private static final int REST = 4;
    private static final int AND = 5;
    private static final int OR = 6;
    private static final int XOR = 7;
    private static final int SHIFT_LEFT = 8;
    private static final int SHIFT_RIGHT = 9;

    // Written out, since the rules allow Integer's and Long's functions and do not name their constants.
    private static final int LEAST_INT = -2147483648;
    private static final int GREATEST_INT = 2147483647;

    private static final int REFUSED = -1;
    private static final int NO_RESULT = 0;
    private static final int TOLD = 1;

    private static final int SHIFT_MASK = 31;
    private static final int MOST_AROUND = 60;
    private static final int ADDED_BY_AROUND = 3;
    private static final int[] FIRST = {-2147483648, -2147483647, -1, 0, 1, 2147483646, 2147483647};

    // Not in order: so the first thresholds keep their places, and clear() only has to forget the rest.
    private final int[] thresholds;
    private int thresholdCount;
    private int aroundCount;
    private int resultLow;
    private int resultHigh;
    private final Span span;

    public RangeRules() {
        thresholds = new int[FIRST.length + ADDED_BY_AROUND * MOST_AROUND];
        System.arraycopy(FIRST, 0, thresholds, 0, FIRST.length);
        thresholdCount = FIRST.length;
        aroundCount = 0;
        resultLow = 0;
        resultHigh = 0;
        span = new Span();
    }

    public int around(int n) {
        if (aroundCount >= MOST_AROUND) {
            return REFUSED;
        }
        aroundCount++;
        if (n > LEAST_INT) {
            addThreshold(n - 1);
        }
        addThreshold(n);
        if (n < GREATEST_INT) {
            addThreshold(n + 1);
        }
        return thresholdCount;
    }

    public void clear() {
        thresholdCount = FIRST.length;
        aroundCount = 0;
    }

    public int size() {
        return thresholdCount;
    }

    public int down(int v) {
        // The least int is always a threshold, so it is the answer if no other one fits.
        int best = LEAST_INT;
        for (int i = 0; i < thresholdCount; i++) {
            int threshold = thresholds[i];
            if (threshold <= v && threshold > best) {
                best = threshold;
            }
        }
        return best;
    }

    public int up(int v) {
        // The greatest int is always a threshold, so it is the answer if no other one fits.
        int best = GREATEST_INT;
        for (int i = 0; i < thresholdCount; i++) {
            int threshold = thresholds[i];
            if (threshold >= v && threshold < best) {
                best = threshold;
            }
        }
        return best;
    }

    public int work(int op, int l, int h, int m, int n) {
        if (op < PLUS || op > SHIFT_RIGHT || !isRange(l, h) || !isRange(m, n)) {
            return REFUSED;
        }
        if ((op == DIVIDE || op == REST) && m == 0 && n == 0) {
            return NO_RESULT;
        }
        switch (op) {
            case PLUS:
                tell((long) l + m, (long) h + n);
                break;
            case MINUS:
                tell((long) l - n, (long) h - m);
                break;
            case TIMES:
                multiply(l, h, m, n);
                break;
            case DIVIDE:
                divide(l, h, m, n);
                break;
            case REST:
                rest(l, h, m, n);
                break;
            case AND:
                and(l, h, m, n);
                break;
            case OR:
            case XOR:
                orOrXor(l, h, m, n);
                break;
            case SHIFT_LEFT:
                shiftLeft(l, h, m, n);
                break;
            default:
                shiftRight(l, h, m, n);
                break;
        }
        return TOLD;
    }

    public boolean negate(int l, int h) {
        if (!isRange(l, h)) {
            return false;
        }
        tell(-(long) h, -(long) l);
        return true;
    }

    public int low() {
        return resultLow;
    }

    public int high() {
        return resultHigh;
    }

    private void addThreshold(int v) {
        if (!isThreshold(v) && thresholdCount < thresholds.length) {
            thresholds[thresholdCount] = v;
            thresholdCount++;
        }
    }

    private boolean isThreshold(int v) {
        return down(v) == v;
    }

    private boolean isRange(int l, int h) {
        return l <= h && isThreshold(l) && isThreshold(h);
    }

    private void tell(long l, long h) {
        if (isInt(l) && isInt(h)) {
            resultLow = down((int) l);
            resultHigh = up((int) h);
        } else {
            tellAllInts();
        }
    }

    private void tellAllInts() {
        resultLow = LEAST_INT;
        resultHigh = GREATEST_INT;
    }

    private static boolean isInt(long v) {
        return v >= LEAST_INT && v <= GREATEST_INT;
    }

    // The ends are longs here and in divide, since 2^31 comes as a factor and as a quotient.
    private void multiply(long l, long h, long m, long n) {
        span.empty();
        span.take(l * m);
        span.take(l * n);
        span.take(h * m);
        span.take(h * n);
        tell(span.least, span.greatest);
    }

    private void divide(long l, long h, long m, long n) {
        span.empty();
        takeQuotients(l, h, m);
        takeQuotients(l, h, n);
        if (m <= -1 && n >= -1) {
            takeQuotients(l, h, -1);
        }
        if (m <= 1 && n >= 1) {
            takeQuotients(l, h, 1);
        }
        tell(span.least, span.greatest);
    }

    private void takeQuotients(long l, long h, long divisor) {
        if (divisor != 0) {
            span.take(l / divisor);
            span.take(h / divisor);
        }
    }

    private void rest(long l, long h, long m, long n) {
        long most = Math.max(Math.abs(m), Math.abs(n)) - 1;
        if (l >= 0) {
            tell(0, Math.min(h, most));
        } else if (h <= 0) {
            tell(Math.max(l, -most), 0);
        } else {
            tell(Math.max(l, -most), Math.min(h, most));
        }
    }

    private void and(int l, int h, int m, int n) {
        if (l < 0 && m < 0) {
            tellAllInts();
        } else if (l < 0) {
            tell(0, n);
        } else if (m < 0) {
            tell(0, h);
        } else {
            tell(0, Math.min(h, n));
        }
    }

    private void orOrXor(int l, int h, int m, int n) {
        if (l < 0 || m < 0) {
            tellAllInts();
        } else {
            tell(0, onesNotBelow(Math.max(h, n)));
        }
    }

    private static int onesNotBelow(int v) {
        int ones = 0;
        for (int k = 0; k < 31 && ones < v; k++) {
            ones = 2 * ones + 1;
        }
        return ones;
    }

    private void shiftLeft(int l, int h, int m, int n) {
        if (m == n) {
            long factor = 1L << (m & SHIFT_MASK);
            multiply(l, h, factor, factor);
        } else {
            tellAllInts();
        }
    }

    private void shiftRight(int l, int h, int m, int n) {
        if (m == n) {
            tell(l >> (m & SHIFT_MASK), h >> (m & SHIFT_MASK));
        } else {
            tell(Math.min(l, 0), Math.max(h, -1));
        }
    }

    /** The least and the greatest of the numbers taken since it was emptied. */
    private static final class Span {
        private static final long LEAST_LONG = -9223372036854775808L;
        private static final long GREATEST_LONG = 9223372036854775807L;

        private long least;
        private long greatest;

        private void empty() {
            least = GREATEST_LONG;
            greatest = LEAST_LONG;
        }

        private void take(long v) {
            least = Math.min(least, v);
            greatest = Math.max(greatest, v);
        }
    }
}
