/** Promise 4: size tells how many thresholds there are. */
public final class SizeTest {
    public static void main(String[] args) {
        Due due = new Due();
        RangeRules rules = new RangeRules();
        due.answer("size() of a new object", rules.size(), 7);
        rules.around(2);
        due.answer("size() after around(2)", rules.size(), 9);
        rules.around(100);
        due.answer("size() after around(100)", rules.size(), 12);
        rules.around(100);
        due.answer("size() after around(100) again", rules.size(), 12);
        rules.work(0, 99, 101, 1, 2);
        rules.negate(0, 101);
        rules.down(50);
        rules.up(50);
        due.answer("size() after calls that add none", rules.size(), 12);
        rules.clear();
        due.answer("size() after clear()", rules.size(), 7);
        due.end();
    }
}
