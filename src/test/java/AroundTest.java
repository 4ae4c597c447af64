/** Promise 2: around adds n and its neighbours, at most 60 times. */
public final class AroundTest {
    private static final Due due = new Due();

    public static void main(String[] args) {
        due.sentence("Adds n and its neighbours");
        addsThree();
        leavesTheResult();
        due.sentence("how many thresholds there are");
        addsOnlyWhatIsNew();
        addsOnlyInts();
        due.sentence("-1, and nothing is done, if that was done 60 times");
        stopsAfterSixty();
        doesNothingAfterSixty();
        countsCallsThatAddNothing();
        due.end();
    }

    private static void addsThree() {
        RangeRules rules = new RangeRules();
        due.answer("around(10)", rules.around(10), 10);
        for (int v = 9; v <= 11; v++) {
            due.answer("down(" + v + ")", rules.down(v), v);
            due.answer("up(" + v + ")", rules.up(v), v);
        }
        due.answer("down(8)", rules.down(8), 1);
        due.answer("up(12)", rules.up(12), Due.GREATEST - 1);
        due.answer("around(-500)", rules.around(-500), 13);
        due.answer("up(-600)", rules.up(-600), -501);
        due.answer("down(-2)", rules.down(-2), -499);
    }

    private static void leavesTheResult() {
        RangeRules rules = new RangeRules();
        rules.work(0, 1, 1, 1, 1);
        due.result("1 + 1", rules, 1, Due.GREATEST - 1);
        rules.around(2);
        due.result("1 + 1, then around(2)", rules, 1, Due.GREATEST - 1);
    }

    private static void addsOnlyWhatIsNew() {
        RangeRules rules = new RangeRules();
        due.answer("around(0)", rules.around(0), 7);
        due.answer("around(1)", rules.around(1), 8);
        due.answer("around(-1)", rules.around(-1), 9);
        due.answer("around(10)", rules.around(10), 12);
        due.answer("around(10) again", rules.around(10), 12);
        due.answer("around(11)", rules.around(11), 13);
        due.answer("around(8)", rules.around(8), 15);
        due.answer("around(14)", rules.around(14), 18);
    }

    private static void addsOnlyInts() {
        RangeRules rules = new RangeRules();
        due.answer("around(least)", rules.around(Due.LEAST), 7);
        due.answer("around(greatest)", rules.around(Due.GREATEST), 7);
        due.answer("around(least + 1)", rules.around(Due.LEAST + 1), 8);
        due.answer("around(greatest - 1)", rules.around(Due.GREATEST - 1), 9);
        due.answer("up(least + 2)", rules.up(Due.LEAST + 2), Due.LEAST + 2);
        due.answer("down(greatest - 2)", rules.down(Due.GREATEST - 2), Due.GREATEST - 2);
    }

    private static void stopsAfterSixty() {
        RangeRules rules = new RangeRules();
        for (int i = 1; i <= 60; i++) {
            due.answer("around, time " + i, rules.around(10 * i), 7 + 3 * i);
        }
        for (int n : new int[] {5000, 600, 0, -7, Due.LEAST, Due.GREATEST}) {
            due.answer("around(" + n + ") after 60 times", rules.around(n), -1);
        }
    }

    private static void doesNothingAfterSixty() {
        RangeRules rules = Due.fullRules();
        rules.around(5000);
        rules.around(-7);
        due.answer("size() after 60 times", rules.size(), 187);
        due.answer("up(5000)", rules.up(5000), Due.GREATEST - 1);
        due.answer("down(-7)", rules.down(-7), Due.LEAST + 1);
        for (int i = 1; i <= 60; i++) {
            due.answer("down(" + (10 * i + 5) + ")", rules.down(10 * i + 5), 10 * i + 1);
            due.answer("up(" + (10 * i - 5) + ")", rules.up(10 * i - 5), 10 * i - 1);
        }
        due.told(rules, 0, 599, 600, 0, 1, 599, 601);
        rules.around(600);
        due.result("around after 60 times", rules, 599, 601);
    }

    private static void countsCallsThatAddNothing() {
        RangeRules rules = new RangeRules();
        for (int i = 1; i <= 60; i++) {
            due.answer("around(0), time " + i, rules.around(0), 7);
        }
        due.answer("around(20), time 61", rules.around(20), -1);
        due.answer("size()", rules.size(), 7);
        due.answer("down(20)", rules.down(20), 1);
    }
}
