/** Promise 4: size tells how many thresholds there are. */
public final class SizeTest {
    private static final Due due = new Due();

    public static void main(String[] args) {
        due.sentence("How many there are.");
        fewest();
        asAdded();
        most();
        callsThatAddNone();
        due.end();
    }

    private static void fewest() {
        RangeRules rules = new RangeRules();
        due.answer("size() of a new object", rules.size(), 7);
        due.answer("size() again", rules.size(), 7);
        rules.around(0);
        due.answer("size() after around(0)", rules.size(), 7);
    }

    private static void asAdded() {
        RangeRules rules = new RangeRules();
        rules.around(2);
        due.answer("size() after around(2)", rules.size(), 9);
        rules.around(100);
        due.answer("size() after around(100)", rules.size(), 12);
        rules.around(100);
        due.answer("size() after around(100) again", rules.size(), 12);
        rules.clear();
        due.answer("size() after clear()", rules.size(), 7);
        rules.around(100);
        due.answer("size() after around(100) again", rules.size(), 10);
    }

    private static void most() {
        RangeRules rules = new RangeRules();
        for (int i = 1; i <= 60; i++) {
            rules.around(-1000 * i);
            due.answer("size() after " + i + " times", rules.size(), 7 + 3 * i);
        }
        rules.around(5);
        due.answer("size() after 61 times", rules.size(), 187);
        rules.clear();
        due.answer("size() after clear()", rules.size(), 7);
    }

    private static void callsThatAddNone() {
        RangeRules rules = Due.rulesAround(2, 100);
        rules.work(0, 99, 101, 1, 2);
        rules.work(3, 99, 101, 0, 0);
        rules.work(10, 99, 101, 1, 2);
        rules.negate(0, 101);
        rules.negate(50, 101);
        rules.down(50);
        rules.up(50);
        rules.low();
        rules.high();
        due.answer("size() after calls that add none", rules.size(), 12);
    }
}
