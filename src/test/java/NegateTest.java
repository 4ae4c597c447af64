/** Promise 8: negate, its edges, and what is refused. */
public final class NegateTest {
    private static final Due due = new Due();

    public static void main(String[] args) {
        RangeRules rules = Due.rulesAround(10, -20);
        told(rules, 0, 0, 0, 0);
        told(rules, -1, 1, -1, 1);
        told(rules, 9, 10, -19, -1);
        told(rules, 0, 11, -19, 0);
        told(rules, -21, -19, 11, Due.GREATEST - 1);
        told(rules, Due.LEAST + 1, 0, 0, Due.GREATEST);
        told(rules, 0, Due.GREATEST, Due.LEAST + 1, 0);
        told(rules, 0, Due.GREATEST - 1, Due.LEAST + 1, 0);
        told(rules, Due.LEAST, Due.LEAST, Due.LEAST, Due.GREATEST);
        told(rules, Due.LEAST, -1, Due.LEAST, Due.GREATEST);
        told(rules, Due.LEAST, Due.GREATEST, Due.LEAST, Due.GREATEST);
        told(rules, Due.LEAST + 1, Due.GREATEST, Due.LEAST + 1, Due.GREATEST);
        refused(rules);
        due.end();
    }

    private static void told(RangeRules rules, int l, int h, int low, int high) {
        String call = "negate(" + l + ", " + h + ")";
        due.answer(call, rules.negate(l, h), true);
        due.result(call, rules, low, high);
    }

    private static void refused(RangeRules rules) {
        told(rules, -1, 0, 0, 1);
        due.answer("negate, l above h", rules.negate(1, 0), false);
        due.answer("negate, l far above h", rules.negate(Due.GREATEST, Due.LEAST), false);
        due.answer("negate, l no threshold", rules.negate(8, 10), false);
        due.answer("negate, h no threshold", rules.negate(10, 12), false);
        due.answer("negate, neither a threshold", rules.negate(5, 5), false);
        due.result("calls that were refused", rules, 0, 1);
        due.answer("size() after calls that were refused", rules.size(), 13);
    }
}
