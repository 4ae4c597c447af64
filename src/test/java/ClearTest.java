/** Promise 3: clear brings the first thresholds again. */
public final class ClearTest {
    private static final int[] FIRST = {Due.LEAST, Due.LEAST + 1, -1, 0, 1, Due.GREATEST - 1, Due.GREATEST};

    private static final Due due = new Due();

    public static void main(String[] args) {
        due.sentence("The first thresholds again.");
        nothingToForget();
        forgetsWhatWasAdded();
        forgetsAllOfSixty();
        forgetsWhatStandsNextToTheFirst();
        due.sentence("The first thresholds again. (and no more: the result stays)");
        leavesTheResult();
        due.sentence("The first thresholds again. (as in a new object: 60 times may follow)");
        sixtyTimesAgain();
        due.end();
    }

    private static void nothingToForget() {
        RangeRules rules = new RangeRules();
        rules.clear();
        due.state("clear of a new object", rules, new State(0, 0, FIRST));
        rules.clear();
        rules.clear();
        due.state("clear again", rules, new State(0, 0, FIRST));
    }

    private static void forgetsWhatWasAdded() {
        RangeRules rules = Due.rulesAround(10, -10, Due.LEAST + 5, Due.GREATEST - 5);
        due.answer("size()", rules.size(), 19);
        rules.clear();
        due.answer("size() when cleared", rules.size(), 7);
        for (int i = 1; i < FIRST.length; i++) {
            due.answer("down(" + FIRST[i] + ")", rules.down(FIRST[i]), FIRST[i]);
            due.answer("down(" + (FIRST[i] - 1) + ")", rules.down(FIRST[i] - 1), FIRST[i - 1]);
            due.answer("up(" + (FIRST[i - 1] + 1) + ")", rules.up(FIRST[i - 1] + 1), FIRST[i]);
        }
        due.work(rules, 0, 0, 10, 0, 1, -1);
        due.answer("negate with a threshold of before", rules.negate(-10, 0), false);
        due.answer("around(20)", rules.around(20), 10);
        due.answer("down(18)", rules.down(18), 1);
    }

    private static void forgetsAllOfSixty() {
        RangeRules rules = Due.fullRules();
        due.answer("around, time 61", rules.around(5), -1);
        rules.clear();
        due.state("clear of a full object", rules, new State(0, 0, FIRST));
    }

    private static void forgetsWhatStandsNextToTheFirst() {
        RangeRules rules = Due.rulesAround(-1, 0, 1, Due.LEAST + 1, Due.GREATEST - 1, Due.LEAST, Due.GREATEST);
        due.answer("size()", rules.size(), 11);
        rules.clear();
        due.state("clear", rules, new State(0, 0, FIRST));
    }

    private static void leavesTheResult() {
        RangeRules rules = Due.rulesAround(10);
        rules.work(0, 9, 10, 0, 1);
        rules.clear();
        due.result("9 to 10 and 0 to 1, then clear", rules, 9, 11);
    }

    private static void sixtyTimesAgain() {
        RangeRules rules = new RangeRules();
        for (int i = 1; i <= 61; i++) {
            rules.around(-10 * i);
        }
        due.answer("size()", rules.size(), 187);
        rules.clear();
        for (int i = 1; i <= 60; i++) {
            due.answer("around after clear, time " + i, rules.around(10 * i), 7 + 3 * i);
        }
        due.answer("around after clear, time 61", rules.around(5000), -1);
        due.answer("size()", rules.size(), 187);
        due.answer("up(-600)", rules.up(-600), -1);
    }
}
