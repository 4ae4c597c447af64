import java.math.BigInteger;
import java.util.ArrayList;
import java.util.List;
import java.util.TreeSet;

/** The document's words over whole numbers without a size, written apart from RangeRules. */
final class Oracle {
    private static final BigInteger LEAST = BigInteger.valueOf(Due.LEAST);
    private static final BigInteger GREATEST = BigInteger.valueOf(Due.GREATEST);

    private final TreeSet<BigInteger> thresholds = new TreeSet<>();
    private int added;
    private BigInteger low = BigInteger.ZERO;
    private BigInteger high = BigInteger.ZERO;

    Oracle() {
        clear();
    }

    int around(int n) {
        if (added == 60) {
            return -1;
        }
        added++;
        for (long v = n - 1L; v <= n + 1L; v++) {
            if (isInt(BigInteger.valueOf(v))) {
                thresholds.add(BigInteger.valueOf(v));
            }
        }
        return thresholds.size();
    }

    void clear() {
        thresholds.clear();
        added = 0;
        for (long v : new long[] {-2147483648L, -2147483647L, -1, 0, 1, 2147483646L, 2147483647L}) {
            thresholds.add(BigInteger.valueOf(v));
        }
    }

    int size() {
        return thresholds.size();
    }

    int down(int v) {
        return thresholds.floor(BigInteger.valueOf(v)).intValueExact();
    }

    int up(int v) {
        return thresholds.ceiling(BigInteger.valueOf(v)).intValueExact();
    }

    int low() {
        return low.intValueExact();
    }

    int high() {
        return high.intValueExact();
    }

    List<Integer> listed() {
        List<Integer> all = new ArrayList<>();
        for (BigInteger v : thresholds) {
            all.add(v.intValueExact());
        }
        return all;
    }

    boolean negate(int l, int h) {
        if (!isRange(l, h)) {
            return false;
        }
        become(BigInteger.valueOf(h).negate(), BigInteger.valueOf(l).negate());
        return true;
    }

    int work(int op, int l, int h, int m, int n) {
        if (op < 0 || op > 9 || !isRange(l, h) || !isRange(m, n)) {
            return -1;
        }
        if ((op == 3 || op == 4) && m == 0 && n == 0) {
            return 0;
        }
        if (op <= 3) {
            ofEnds(op, l, h, m, n);
        } else if (op == 4) {
            rest(l, h, m, n);
        } else if (op <= 7) {
            bits(op, l, h, m, n);
        } else {
            shift(op, l, h, m, n);
        }
        return 1;
    }

    private void ofEnds(int op, int l, int h, int m, int n) {
        TreeSet<BigInteger> results = new TreeSet<>();
        for (int left : new int[] {l, h}) {
            BigInteger x = BigInteger.valueOf(left);
            for (int right : op == 3 ? new int[] {-1, 1, m, n} : new int[] {m, n}) {
                BigInteger y = BigInteger.valueOf(right);
                if (op == 0) {
                    results.add(x.add(y));
                } else if (op == 1) {
                    results.add(x.subtract(y));
                } else if (op == 2) {
                    results.add(x.multiply(y));
                } else if (right != 0 && m <= right && right <= n) {
                    results.add(x.divide(y));
                }
            }
        }
        become(results.first(), results.last());
    }

    private void rest(int l, int h, int m, int n) {
        BigInteger most = BigInteger.valueOf(m).abs().max(BigInteger.valueOf(n).abs()).subtract(BigInteger.ONE);
        BigInteger below = BigInteger.valueOf(l).max(most.negate());
        BigInteger above = BigInteger.valueOf(h).min(most);
        become(l >= 0 ? BigInteger.ZERO : below, l < 0 && h <= 0 ? BigInteger.ZERO : above);
    }

    private void bits(int op, int l, int h, int m, int n) {
        if (op == 5 ? l < 0 && m < 0 : l < 0 || m < 0) {
            become(LEAST, GREATEST);
            return;
        }
        if (op == 5) {
            TreeSet<Integer> uppers = new TreeSet<>();
            if (l >= 0) {
                uppers.add(h);
            }
            if (m >= 0) {
                uppers.add(n);
            }
            become(BigInteger.ZERO, BigInteger.valueOf(uppers.first()));
            return;
        }
        int k = 0;
        while ((1L << k) - 1 < h || (1L << k) - 1 < n) {
            k++;
        }
        become(BigInteger.ZERO, BigInteger.valueOf((1L << k) - 1));
    }

    private void shift(int op, int l, int h, int m, int n) {
        if (m != n) {
            become(op == 8 ? LEAST : BigInteger.valueOf(l).min(BigInteger.ZERO),
                    op == 8 ? GREATEST : BigInteger.valueOf(h).max(BigInteger.ONE.negate()));
            return;
        }
        BigInteger factor = BigInteger.TWO.pow(m & 31);
        if (op == 8) {
            become(BigInteger.valueOf(l).multiply(factor), BigInteger.valueOf(h).multiply(factor));
        } else {
            become(BigInteger.valueOf(l >> (m & 31)), BigInteger.valueOf(h >> (m & 31)));
        }
    }

    private void become(BigInteger l, BigInteger h) {
        boolean ints = isInt(l) && isInt(h);
        low = ints ? thresholds.floor(l) : LEAST;
        high = ints ? thresholds.ceiling(h) : GREATEST;
    }

    private boolean isRange(int l, int h) {
        return l <= h && thresholds.contains(BigInteger.valueOf(l)) && thresholds.contains(BigInteger.valueOf(h));
    }

    private static boolean isInt(BigInteger v) {
        return v.compareTo(LEAST) >= 0 && v.compareTo(GREATEST) <= 0;
    }
}
