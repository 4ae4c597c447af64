/** Promise 8: negate, its edges, and what is refused. */
public final class NegateTest {
    private static final Due due = new Due();

    public static void main(String[] args) {
        due.sentence("The result becomes [-h, -l]: true");
        ofThresholds();
        betweenThresholds();
        lastInts();
        noInt();
        due.sentence("false if l to h is no range");
        refused();
        due.end();
    }

    private static void ofThresholds() {
        RangeRules rules = Due.rulesAround(10, -10);
        due.negated(rules, 0, 0, 0, 0);
        due.negated(rules, 1, 1, -1, -1);
        due.negated(rules, -1, -1, 1, 1);
        due.negated(rules, -1, 1, -1, 1);
        due.negated(rules, 0, 1, -1, 0);
        due.negated(rules, 9, 11, -11, -9);
        due.negated(rules, -11, 9, -9, 11);
    }

    private static void betweenThresholds() {
        RangeRules rules = Due.rulesAround(10, -20);
        due.negated(rules, 9, 10, -19, -1);
        due.negated(rules, 0, 11, -19, 0);
        due.negated(rules, -21, -19, 11, Due.GREATEST - 1);
    }

    private static void lastInts() {
        RangeRules rules = new RangeRules();
        due.negated(rules, Due.LEAST + 1, 0, 0, Due.GREATEST);
        due.negated(rules, Due.LEAST + 1, Due.LEAST + 1, Due.GREATEST, Due.GREATEST);
        due.negated(rules, 0, Due.GREATEST, Due.LEAST + 1, 0);
        due.negated(rules, 0, Due.GREATEST - 1, Due.LEAST + 1, 0);
        due.negated(rules, Due.GREATEST, Due.GREATEST, Due.LEAST + 1, Due.LEAST + 1);
        due.negated(rules, Due.LEAST + 1, Due.GREATEST, Due.LEAST + 1, Due.GREATEST);
    }

    /** 2147483648 is no int, so each range from the least int on becomes all ints. */
    private static void noInt() {
        RangeRules rules = new RangeRules();
        due.negated(rules, Due.LEAST, Due.LEAST, Due.LEAST, Due.GREATEST);
        due.negated(rules, Due.LEAST, Due.LEAST + 1, Due.LEAST, Due.GREATEST);
        due.negated(rules, Due.LEAST, -1, Due.LEAST, Due.GREATEST);
        due.negated(rules, Due.LEAST, Due.GREATEST, Due.LEAST, Due.GREATEST);
    }

    private static void refused() {
        RangeRules rules = Due.rulesAround(10, -20);
        due.negated(rules, -1, 0, 0, 1);
        due.answer("negate, l above h", rules.negate(1, 0), false);
        due.answer("negate, l far above h", rules.negate(Due.GREATEST, Due.LEAST), false);
        due.answer("negate, l no threshold", rules.negate(8, 10), false);
        due.answer("negate, h no threshold", rules.negate(10, 12), false);
        due.answer("negate, neither a threshold", rules.negate(5, 5), false);
        due.answer("negate, l no threshold from the least on", rules.negate(Due.LEAST + 2, 0), false);
        due.answer("negate, h no threshold up to the greatest", rules.negate(0, Due.GREATEST - 2), false);
        due.result("calls that were refused", rules, 0, 1);
        due.answer("size() after calls that were refused", rules.size(), 13);
    }
}
