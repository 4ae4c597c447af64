import java.util.List;
import java.util.Random;

/** All promises: long runs of calls, each answer held against the oracle's. */
public final class OracleTest {
    private static final int RUNS = 3000;
    private static final int CALLS = 100; // each with size, low and high after it: at most 500 in all

    private final Due due = new Due();
    private final Random random = new Random(20261116L);
    private RangeRules rules;
    private Oracle oracle;

    public static void main(String[] args) {
        OracleTest test = new OracleTest();
        for (int run = 0; run < RUNS; run++) {
            test.rules = new RangeRules();
            test.oracle = new Oracle();
            for (int call = 0; call < CALLS; call++) {
                // Few clears and many arounds in some runs, so that the 60 are reached.
                test.oneCall(run % 3 == 0);
            }
        }
        test.due.end();
    }

    private void oneCall(boolean manyArounds) {
        int kind = random.nextInt(100);
        String name;
        if (kind < (manyArounds ? 75 : 15)) {
            int n = number();
            name = "around(" + n + ")";
            due.answer(name, rules.around(n), oracle.around(n));
        } else if (kind < (manyArounds ? 76 : 17)) {
            name = "clear()";
            rules.clear();
            oracle.clear();
        } else if (kind < (manyArounds ? 80 : 30)) {
            int v = number();
            name = "down and up of " + v;
            due.answer(name, rules.down(v), oracle.down(v));
            due.answer(name, rules.up(v), oracle.up(v));
        } else if (kind < (manyArounds ? 83 : 40)) {
            name = negate();
        } else {
            name = work();
        }
        due.answer(name + ": size()", rules.size(), oracle.size());
        due.result(name, rules, oracle.low(), oracle.high());
    }

    private String negate() {
        int[] range = range();
        String name = "negate(" + range[0] + ", " + range[1] + ")";
        due.answer(name, rules.negate(range[0], range[1]), oracle.negate(range[0], range[1]));
        return name;
    }

    private String work() {
        int op = random.nextInt(40) == 0 ? number() : random.nextInt(10);
        int[] left = range();
        int[] right = range();
        if (random.nextInt(4) == 0) {
            right[1] = right[0];
        }
        String name = "work(" + op + ", " + left[0] + ", " + left[1] + ", " + right[0] + ", " + right[1] + ")";
        due.answer(name, rules.work(op, left[0], left[1], right[0], right[1]),
                oracle.work(op, left[0], left[1], right[0], right[1]));
        return name;
    }

    private int[] range() {
        List<Integer> ends = oracle.listed();
        int a = ends.get(random.nextInt(ends.size()));
        int b = ends.get(random.nextInt(ends.size()));
        if (random.nextInt(30) == 0) {
            return new int[] {number(), b};
        }
        if (random.nextInt(30) == 0) {
            return new int[] {Math.max(a, b), Math.min(a, b)};
        }
        return new int[] {Math.min(a, b), Math.max(a, b)};
    }

    private int number() {
        return switch (random.nextInt(5)) {
            case 0 -> random.nextInt();
            case 1 -> random.nextInt(81) - 40;
            case 2 -> (1 << random.nextInt(32)) + random.nextInt(3) - 1;
            case 3 -> Due.LEAST + random.nextInt(9) - 4;
            default -> random.nextInt() >> random.nextInt(32);
        };
    }
}
