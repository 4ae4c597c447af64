/** "Terms", a RANGE: two thresholds as ends, l not above h. */
public final class RangeTest {
    private static final Due due = new Due();

    public static void main(String[] args) {
        due.sentence("A RANGE l to h has two thresholds as ends");
        thresholdsAsEnds();
        lowerEndNoThreshold();
        upperEndNoThreshold();
        endsThatWereAddedOrForgotten();
        due.sentence("l not above h");
        lowerEndBelowOrAsUpper();
        lowerEndAboveUpper();
        due.end();
    }

    /** l to h as the left range and as the right range of every operation, and for negate. */
    private static void isRange(RangeRules rules, int l, int h, boolean range) {
        String name = l + " to " + h;
        for (int op = 0; op <= 9; op++) {
            due.answer(name + " at the left of " + op, rules.work(op, l, h, 1, 1), range ? 1 : -1);
            // 0 to 0 at the right has no result for two of them, but is a range.
            int told = (op == 3 || op == 4) && l == 0 && h == 0 ? 0 : 1;
            due.answer(name + " at the right of " + op, rules.work(op, 1, 1, l, h), range ? told : -1);
        }
        due.answer("negate of " + name, rules.negate(l, h), range);
    }

    private static void thresholdsAsEnds() {
        RangeRules rules = Due.rulesAround(10);
        isRange(rules, Due.LEAST, Due.GREATEST, true);
        isRange(rules, Due.LEAST + 1, Due.GREATEST - 1, true);
        isRange(rules, -1, 9, true);
        isRange(rules, 0, 0, true);
        isRange(rules, 0, 10, true);
        isRange(rules, 1, 11, true);
    }

    private static void lowerEndNoThreshold() {
        RangeRules rules = Due.rulesAround(10);
        isRange(rules, Due.LEAST + 2, 10, false);
        isRange(rules, -2, 10, false);
        isRange(rules, 2, 10, false);
        isRange(rules, 8, 10, false);
        isRange(rules, 12, Due.GREATEST, false);
        isRange(rules, Due.GREATEST - 2, Due.GREATEST, false);
    }

    private static void upperEndNoThreshold() {
        RangeRules rules = Due.rulesAround(10);
        isRange(rules, Due.LEAST, Due.LEAST + 2, false);
        isRange(rules, Due.LEAST, -2, false);
        isRange(rules, 0, 2, false);
        isRange(rules, 0, 8, false);
        isRange(rules, 0, 12, false);
        isRange(rules, 0, Due.GREATEST - 2, false);
        isRange(new RangeRules(), 5, 5, false);
    }

    private static void endsThatWereAddedOrForgotten() {
        RangeRules rules = new RangeRules();
        isRange(rules, 29, 31, false);
        rules.around(30);
        isRange(rules, 29, 31, true);
        rules.clear();
        isRange(rules, 29, 31, false);
    }

    private static void lowerEndBelowOrAsUpper() {
        RangeRules rules = Due.rulesAround(10);
        isRange(rules, Due.LEAST, Due.LEAST, true);
        isRange(rules, -1, -1, true);
        isRange(rules, -1, 0, true);
        isRange(rules, 9, 9, true);
        isRange(rules, 9, 10, true);
        isRange(rules, Due.GREATEST, Due.GREATEST, true);
    }

    private static void lowerEndAboveUpper() {
        RangeRules rules = Due.rulesAround(10);
        isRange(rules, Due.LEAST + 1, Due.LEAST, false);
        isRange(rules, 0, -1, false);
        isRange(rules, 1, 0, false);
        isRange(rules, 10, 9, false);
        isRange(rules, Due.GREATEST, Due.GREATEST - 1, false);
        isRange(rules, Due.GREATEST, Due.LEAST, false);
        isRange(rules, 1, Due.LEAST, false);
    }
}
