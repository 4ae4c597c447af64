/** Promise 1: the first thresholds, and the result 0 to 0. */
public final class NewObjectTest {
    private static final int[] FIRST = {Due.LEAST, Due.LEAST + 1, -1, 0, 1, Due.GREATEST - 1, Due.GREATEST};

    public static void main(String[] args) {
        Due due = new Due();
        RangeRules rules = new RangeRules();
        due.result("new", rules, 0, 0);
        due.answer("size()", rules.size(), 7);
        for (int i = 0; i < FIRST.length; i++) {
            due.answer("down of a first threshold", rules.down(FIRST[i]), FIRST[i]);
            due.answer("up of a first threshold", rules.up(FIRST[i]), FIRST[i]);
            if (i > 0) {
                due.answer("down of the int below", rules.down(FIRST[i] - 1), FIRST[i - 1]);
                due.answer("up of the int above", rules.up(FIRST[i - 1] + 1), FIRST[i]);
            }
        }
        objectsAreApart(due);
        due.end();
    }

    private static void objectsAreApart(Due due) {
        RangeRules one = Due.rulesAround(50);
        one.work(0, 49, 50, 0, 1);
        RangeRules other = new RangeRules();
        due.answer("size() of another object", other.size(), 7);
        due.answer("down(50) of another object", other.down(50), 1);
        due.result("another object", other, 0, 0);
        other.around(90);
        due.answer("down(90) of the first object", one.down(90), 51);
    }
}
