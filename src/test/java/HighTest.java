/** Promise 10: high tells the upper end of the latest result, as often as it is asked. */
public final class HighTest {
    private static final Due due = new Due();

    public static void main(String[] args) {
        due.sentence("The upper end of the latest result.");
        RangeRules rules = Due.rulesAround(10);
        high("no result yet", rules, 0);
        rules.work(0, 9, 10, 0, 1);
        high("work", rules, 11);
        high("asked again", rules, 11);
        rules.negate(0, 1);
        high("negate", rules, 0);
        rules.negate(-1, 0);
        high("negate", rules, 1);
        rules.work(4, 9, 10, 0, 0);
        high("work without a result", rules, 1);
        rules.work(12, 9, 10, 0, 1);
        rules.negate(1, 0);
        high("refused calls", rules, 1);
        rules.work(5, -1, -1, -1, -1);
        high("all ints", rules, Due.GREATEST);
        rules.around(30);
        rules.clear();
        high("other thresholds", rules, Due.GREATEST);
        rules.work(2, 1, 1, -1, -1);
        high("work after clear", rules, -1);
        rules.work(0, Due.LEAST, Due.LEAST, 0, 0);
        high("the least", rules, Due.LEAST);
        due.end();
    }

    private static void high(String after, RangeRules rules, int want) {
        due.answer(after + ": high()", rules.high(), want);
    }
}
