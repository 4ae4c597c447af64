/** "What it is": all of the 512 calls after an object has been made answer as due. */
public final class CallsLimitTest {
    private static final int CALLS = 512;

    private static final Due due = new Due();

    public static void main(String[] args) {
        due.sentence("An object is used for at most 512 calls after it has been made");
        everyCallAsTheLast();
        aroundOnEveryCall();
        clearOnEverySecondCall();
        workOnEveryCall();
        due.sentence("what later calls answer is free (but no call throws)");
        laterCallsEnd();
        due.end();
    }

    /** An object that was called so often, with the thresholds around 10 and the result 9 to 11. */
    private static RangeRules used(int calls) {
        RangeRules rules = new RangeRules();
        rules.around(10);
        rules.work(0, 9, 10, 0, 1);
        for (int call = 2; call < calls; call++) {
            rules.size();
        }
        return rules;
    }

    private static void everyCallAsTheLast() {
        due.answer("around as the last call", used(CALLS - 1).around(20), 13);
        due.answer("size as the last call", used(CALLS - 1).size(), 10);
        due.answer("down as the last call", used(CALLS - 1).down(8), 1);
        due.answer("up as the last call", used(CALLS - 1).up(2), 9);
        due.answer("work as the last call", used(CALLS - 1).work(0, 9, 10, 0, 1), 1);
        due.answer("work without a result as the last call", used(CALLS - 1).work(3, 9, 10, 0, 0), 0);
        due.answer("refused work as the last call", used(CALLS - 1).work(10, 9, 10, 0, 1), -1);
        due.answer("negate as the last call", used(CALLS - 1).negate(0, 1), true);
        due.answer("refused negate as the last call", used(CALLS - 1).negate(1, 0), false);
        due.answer("low as the last call", used(CALLS - 1).low(), 9);
        due.answer("high as the last call", used(CALLS - 1).high(), 11);

        // What the last but one did is seen by the last.
        RangeRules cleared = used(CALLS - 2);
        cleared.clear();
        due.answer("clear, then size as the last call", cleared.size(), 7);
        RangeRules worked = used(CALLS - 2);
        worked.work(0, 0, 0, 10, 10);
        due.answer("work, then low as the last call", worked.low(), 10);
        RangeRules negated = used(CALLS - 2);
        negated.negate(0, 1);
        due.answer("negate, then high as the last call", negated.high(), 0);
    }

    private static void aroundOnEveryCall() {
        RangeRules rules = new RangeRules();
        for (int call = 1; call <= CALLS; call++) {
            due.answer("around on call " + call, rules.around(10 * call), call <= 60 ? 7 + 3 * call : -1);
        }
    }

    private static void clearOnEverySecondCall() {
        RangeRules rules = new RangeRules();
        for (int call = 1; call <= CALLS; call += 2) {
            rules.clear();
            due.answer("size on call " + (call + 1), rules.size(), 7);
        }
    }

    private static void workOnEveryCall() {
        RangeRules rules = Due.rulesAround(1);
        int right = 1;
        // 1 to 1, then 2 to 2, and so on in turns: each result is the next call's range.
        for (int call = 2; call <= CALLS - 2; call += 3) {
            int op = right == 1 ? 0 : 1;
            right = 3 - right;
            due.answer("work on call " + call, rules.work(op, 3 - right, 3 - right, 1, 1), 1);
            due.answer("low on call " + (call + 1), rules.low(), right);
            due.answer("high on call " + (call + 2), rules.high(), right);
        }
    }

    private static void laterCallsEnd() {
        RangeRules rules = used(CALLS);
        for (int i = 0; i < 3 * CALLS; i++) {
            int v = i * 0x1234567;
            rules.around(v);
            rules.size();
            rules.down(v);
            rules.up(v);
            rules.work(i % 12 - 1, v, v + 1, v - 1, v);
            rules.work(i % 10, Due.LEAST, Due.GREATEST, -1, 0);
            rules.negate(v, v);
            rules.low();
            rules.high();
            if (i % 100 == 0) {
                rules.clear();
            }
        }
        due.answer("calls after the 512th have ended", true, true);
    }
}
