/** Promise 1: the first thresholds, and the result 0 to 0. */
public final class NewObjectTest {
    private static final int[] FIRST = {Due.LEAST, Due.LEAST + 1, -1, 0, 1, Due.GREATEST - 1, Due.GREATEST};

    private static final Due due = new Due();

    public static void main(String[] args) {
        due.sentence("The first thresholds");
        firstThresholds();
        due.sentence("the result is 0 to 0");
        resultIsZeroToZero();
        due.sentence("A new object (has nothing of another)");
        objectsAreApart();
        due.end();
    }

    private static void firstThresholds() {
        RangeRules rules = new RangeRules();
        due.answer("size()", rules.size(), 7);
        for (int i = 0; i < FIRST.length; i++) {
            due.answer("down of a first threshold", rules.down(FIRST[i]), FIRST[i]);
            due.answer("up of a first threshold", rules.up(FIRST[i]), FIRST[i]);
            if (i > 0) {
                due.answer("down of the int below", rules.down(FIRST[i] - 1), FIRST[i - 1]);
                due.answer("up of the int above", rules.up(FIRST[i - 1] + 1), FIRST[i]);
            }
        }
        RangeRules other = new RangeRules();
        due.answer("around is yet to be done 60 times", other.around(10), 10);
    }

    private static void resultIsZeroToZero() {
        RangeRules rules = new RangeRules();
        due.answer("low()", rules.low(), 0);
        due.answer("high()", rules.high(), 0);
        rules.work(3, 1, 1, 0, 0);
        rules.work(10, 1, 1, 1, 1);
        rules.negate(1, 0);
        rules.around(10);
        rules.clear();
        due.result("calls without a result", rules, 0, 0);
    }

    private static void objectsAreApart() {
        RangeRules one = Due.rulesAround(50);
        one.work(0, 49, 50, 0, 1);
        RangeRules other = new RangeRules();
        due.state("another object", other, new State(0, 0, FIRST));
        other.around(90);
        other.negate(0, 1);
        due.answer("down(90) of the first object", one.down(90), 51);
        due.result("the first object", one, 49, 51);
        other.clear();
        due.answer("size() of the first object", one.size(), 10);

        RangeRules full = Due.fullRules();
        due.answer("around of the full object", full.around(5), -1);
        due.answer("around of another object", new RangeRules().around(5), 10);
    }
}
