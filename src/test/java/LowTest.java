/** Promise 9: low tells the lower end of the latest result, as often as it is asked. */
public final class LowTest {
    private static final Due due = new Due();

    public static void main(String[] args) {
        due.sentence("The lower end of the latest result.");
        RangeRules rules = Due.rulesAround(10);
        low("no result yet", rules, 0);
        rules.work(0, 9, 10, 0, 1);
        low("work", rules, 9);
        low("asked again", rules, 9);
        rules.negate(-1, 0);
        low("negate", rules, 0);
        rules.negate(0, 1);
        low("negate", rules, -1);
        rules.work(3, 9, 10, 0, 0);
        low("work without a result", rules, -1);
        rules.work(12, 9, 10, 0, 1);
        rules.negate(1, 0);
        low("refused calls", rules, -1);
        rules.work(5, -1, -1, -1, -1);
        low("all ints", rules, Due.LEAST);
        rules.around(30);
        rules.clear();
        low("other thresholds", rules, Due.LEAST);
        rules.work(2, 1, 1, 1, 1);
        low("work after clear", rules, 1);
        rules.work(0, Due.GREATEST, Due.GREATEST, 0, 0);
        low("the greatest", rules, Due.GREATEST);
        due.end();
    }

    private static void low(String after, RangeRules rules, int want) {
        due.answer(after + ": low()", rules.low(), want);
    }
}
