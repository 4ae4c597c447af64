/** Promises 9 and 10: low and high tell the ends of the latest result, as often as they are asked. */
public final class LowHighTest {
    public static void main(String[] args) {
        Due due = new Due();
        RangeRules rules = Due.rulesAround(10);
        due.result("no result yet", rules, 0, 0);
        rules.work(0, 9, 10, 0, 1);
        due.result("work", rules, 9, 11);
        due.result("asked again", rules, 9, 11);
        rules.negate(-1, 0);
        due.result("negate", rules, 0, 1);
        rules.work(3, 9, 10, 0, 0);
        due.result("work without a result", rules, 0, 1);
        rules.work(12, 9, 10, 0, 1);
        rules.negate(1, 0);
        due.result("refused calls", rules, 0, 1);
        rules.work(5, -1, -1, -1, -1);
        due.result("all ints", rules, Due.LEAST, Due.GREATEST);
        rules.around(30);
        rules.clear();
        due.result("other thresholds", rules, Due.LEAST, Due.GREATEST);
        rules.work(2, 1, 1, -1, -1);
        due.result("work after clear", rules, -1, -1);
        due.end();
    }
}
