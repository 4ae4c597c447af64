/** Promise 3: clear brings the first thresholds again. */
public final class ClearTest {
    public static void main(String[] args) {
        Due due = new Due();
        forgetsWhatWasAdded(due);
        leavesTheResult(due);
        sixtyTimesAgain(due);
        due.end();
    }

    private static void forgetsWhatWasAdded(Due due) {
        RangeRules rules = Due.rulesAround(10, -10, Due.LEAST + 5, Due.GREATEST - 5);
        due.answer("size()", rules.size(), 19);
        rules.clear();
        due.answer("size() when cleared", rules.size(), 7);
        int[] first = {Due.LEAST, Due.LEAST + 1, -1, 0, 1, Due.GREATEST - 1, Due.GREATEST};
        for (int i = 1; i < first.length; i++) {
            due.answer("down(" + first[i] + ")", rules.down(first[i]), first[i]);
            due.answer("down(" + (first[i] - 1) + ")", rules.down(first[i] - 1), first[i - 1]);
            due.answer("up(" + (first[i - 1] + 1) + ")", rules.up(first[i - 1] + 1), first[i]);
        }
        due.answer("work with a threshold of before", rules.work(0, 0, 10, 0, 1), -1);
        due.answer("negate with a threshold of before", rules.negate(-10, 0), false);
        due.answer("around(20)", rules.around(20), 10);
        due.answer("down(18)", rules.down(18), 1);
        rules.clear();
        rules.clear();
        due.answer("size() when cleared twice", rules.size(), 7);
    }

    private static void leavesTheResult(Due due) {
        RangeRules rules = Due.rulesAround(10);
        rules.work(0, 9, 10, 0, 1);
        rules.clear();
        due.result("9 to 10 and 0 to 1, then clear", rules, 9, 11);
    }

    private static void sixtyTimesAgain(Due due) {
        RangeRules rules = new RangeRules();
        for (int i = 1; i <= 61; i++) {
            rules.around(-10 * i);
        }
        due.answer("size()", rules.size(), 187);
        rules.clear();
        for (int i = 1; i <= 60; i++) {
            due.answer("around after clear, time " + i, rules.around(10 * i), 7 + 3 * i);
        }
        due.answer("around after clear, time 61", rules.around(5000), -1);
        due.answer("size()", rules.size(), 187);
        due.answer("up(-600)", rules.up(-600), -1);
    }
}
