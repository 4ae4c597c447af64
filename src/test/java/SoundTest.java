/** What the class is for: the result of any two numbers of the ranges lies in what work told. */
public final class SoundTest {
    private static final int OPERATIONS = 10;
    private static final long WIDEST = 20;
    private static final int[] ENDS = {Due.LEAST, Due.LEAST + 2, -9, -7, -4, -1, 0, 1, 3, 7, 10, 31,
        Due.GREATEST - 2, Due.GREATEST};

    private static final Due due = new Due();

    public static void main(String[] args) {
        for (int op = 0; op < OPERATIONS; op++) {
            for (int l : ENDS) {
                for (int h : ENDS) {
                    if (isNarrow(l, h)) {
                        everyRightRange(op, l, h);
                    }
                }
            }
        }
        due.end();
    }

    private static boolean isNarrow(int l, int h) {
        return l <= h && (long) h - l <= WIDEST;
    }

    private static void everyRightRange(int op, int l, int h) {
        // A new object each time, since nothing is promised after an object's 512th call.
        RangeRules rules = Due.rulesAround(3, 6, -4, -8, 9, 31, Due.LEAST + 1, Due.GREATEST - 1);
        for (int m : ENDS) {
            for (int n : ENDS) {
                if (isNarrow(m, n)) {
                    everyPair(rules, op, l, h, m, n);
                }
            }
        }
    }

    private static void everyPair(RangeRules rules, int op, int l, int h, int m, int n) {
        int answer = rules.work(op, l, h, m, n);
        boolean byZero = (op == 3 || op == 4) && m == 0 && n == 0;
        String call = "work(" + op + ", " + l + ", " + h + ", " + m + ", " + n + ")";
        due.answer(call, answer, byZero ? 0 : 1);
        if (answer == 1) {
            due.answer(call + ": results outside", resultsOutside(rules, op, l, h, m, n), 0);
        }
    }

    private static int resultsOutside(RangeRules rules, int op, int l, int h, int m, int n) {
        int low = rules.low();
        int high = rules.high();
        int count = 0;
        // longs, since a loop of ints up to the greatest int has no end
        for (long x = l; x <= h; x++) {
            for (long y = m; y <= n; y++) {
                if ((op == 3 || op == 4) && y == 0) {
                    continue;
                }
                int result = compute(op, (int) x, (int) y);
                if (result < low || result > high) {
                    count++;
                }
            }
        }
        return count;
    }

    private static int compute(int op, int x, int y) {
        return switch (op) {
            case 0 -> x + y;
            case 1 -> x - y;
            case 2 -> x * y;
            case 3 -> x / y;
            case 4 -> x % y;
            case 5 -> x & y;
            case 6 -> x | y;
            case 7 -> x ^ y;
            case 8 -> x << y;
            default -> x >> y;
        };
    }
}
