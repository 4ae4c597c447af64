import java.util.stream.IntStream;

/** What the class is for: the result of any two numbers of the ranges lies in what is told. */
public final class SoundTest {
    private static final int OPERATIONS = 10;
    private static final long WIDEST = 20;
    private static final int[] ENDS = {Due.LEAST, Due.LEAST + 2, -9, -7, -4, -1, 0, 1, 3, 7, 10, 31,
        Due.GREATEST - 2, Due.GREATEST};

    private static final int[] POWERS = powersAndNeighbours();

    private static final Due due = new Due();

    public static void main(String[] args) {
        due.sentence("for each number of the one and each number of the other the result lies in what is told");
        everyOperation();
        due.sentence("The result becomes [-h, -l] (so the number's negative lies in it)");
        everyNegative();
        due.end();
    }

    private static void everyOperation() {
        for (int op = 0; op < OPERATIONS; op++) {
            for (int l : ENDS) {
                for (int h : ENDS) {
                    if (l <= h) {
                        everyRightRange(op, l, h);
                    }
                }
            }
        }
    }

    // A new object for each left range, since nothing is promised after an object's 512th call.
    private static RangeRules rules() {
        return Due.rulesAround(3, 6, -4, -8, 9, 31, Due.LEAST + 1, Due.GREATEST - 1);
    }

    private static void everyRightRange(int op, int l, int h) {
        RangeRules rules = rules();
        for (int m : ENDS) {
            for (int n : ENDS) {
                if (m <= n) {
                    everyPair(rules, op, l, h, m, n);
                }
            }
        }
    }

    private static void everyNegative() {
        for (int l : ENDS) {
            for (int h : ENDS) {
                if (l <= h) {
                    negativesOf(l, h);
                }
            }
        }
    }

    private static void negativesOf(int l, int h) {
        RangeRules rules = rules();
        String call = "negate(" + l + ", " + h + ")";
        due.answer(call, rules.negate(l, h), true);
        int count = 0;
        for (int x : numbersOf(l, h)) {
            if (-x < rules.low() || -x > rules.high()) {
                count++;
            }
        }
        due.answer(call + ": results outside", count, 0);
    }

    /** All numbers of a narrow range; of a wide one those near its ends, near 0 and near powers of 2. */
    private static int[] numbersOf(int l, int h) {
        if ((long) h - l <= WIDEST) {
            return IntStream.rangeClosed(l, h).toArray();
        }
        return IntStream.concat(IntStream.of(l, l + 1, l + 2, h - 2, h - 1, h, 0), IntStream.of(POWERS))
                .filter(x -> l <= x && x <= h).distinct().toArray();
    }

    private static int[] powersAndNeighbours() {
        return IntStream.of(0, 1, 2, 3, 4, 5, 15, 16, 29, 30, 31).map(k -> 1 << k)
                .flatMap(power -> IntStream.of(power - 1, power, power + 1, -power - 1, -power, 1 - power))
                .distinct().toArray();
    }

    private static void everyPair(RangeRules rules, int op, int l, int h, int m, int n) {
        int answer = rules.work(op, l, h, m, n);
        boolean byZero = (op == 3 || op == 4) && m == 0 && n == 0;
        String call = "work(" + op + ", " + l + ", " + h + ", " + m + ", " + n + ")";
        due.answer(call, answer, byZero ? 0 : 1);
        if (answer == 1) {
            due.answer(call + ": results outside", resultsOutside(rules, op, l, h, m, n), 0);
        }
    }

    private static int resultsOutside(RangeRules rules, int op, int l, int h, int m, int n) {
        int low = rules.low();
        int high = rules.high();
        int count = 0;
        int[] rights = numbersOf(m, n);
        for (int x : numbersOf(l, h)) {
            for (int y : rights) {
                if ((op == 3 || op == 4) && y == 0) {
                    continue;
                }
                int result = compute(op, x, y);
                if (result < low || result > high) {
                    count++;
                }
            }
        }
        return count;
    }

    private static int compute(int op, int x, int y) {
        return switch (op) {
            case 0 -> x + y;
            case 1 -> x - y;
            case 2 -> x * y;
            case 3 -> x / y;
            case 4 -> x % y;
            case 5 -> x & y;
            case 6 -> x | y;
            case 7 -> x ^ y;
            case 8 -> x << y;
            default -> x >> y;
        };
    }
}
