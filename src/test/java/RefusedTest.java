/** "Terms": a call that is refused changes nothing. */
public final class RefusedTest {
    private static final Due due = new Due();

    public static void main(String[] args) {
        due.sentence("A call that is refused changes nothing. (around)");
        refusedAround();
        due.sentence("A call that is refused changes nothing. (work)");
        refusedWork();
        due.sentence("A call that is refused changes nothing. (negate)");
        refusedNegate();
        due.sentence("A call that is refused changes nothing. (the times of around)");
        refusedCallsDoNotCountAsAround();
        due.sentence("0 if there is none (what was told stays)");
        noneChangesNothing();
        due.end();
    }

    private static void refusedAround() {
        RangeRules rules = Due.fullRules();
        rules.work(0, 9, 10, 0, 1);
        State before = new State(rules);
        for (int n : new int[] {5, 700, 0, -7, Due.LEAST, Due.GREATEST}) {
            due.answer("around(" + n + ") after 60 times", rules.around(n), -1);
        }
        due.state("refused arounds", rules, before);
    }

    private static void refusedWork() {
        RangeRules rules = Due.rulesAround(10, -10);
        rules.work(0, 9, 10, 0, 1);
        State before = new State(9, 11, Due.LEAST, Due.LEAST + 1, -11, -10, -9, -1, 0, 1, 9, 10, 11,
                Due.GREATEST - 1, Due.GREATEST);
        for (int op : new int[] {-1, 10, Due.LEAST, Due.GREATEST}) {
            due.work(rules, op, 0, 1, 0, 1, -1);
            due.state("work of op " + op, rules, before);
        }
        for (int op = 0; op <= 9; op++) {
            due.work(rules, op, 1, 0, 1, 1, -1);
            due.work(rules, op, 0, 5, 1, 1, -1);
            due.work(rules, op, -5, 0, 1, 1, -1);
            due.work(rules, op, 1, 1, 1, 0, -1);
            due.work(rules, op, 1, 1, 0, 5, -1);
            due.work(rules, op, 1, 1, -5, 0, -1);
            due.result("refused work of op " + op, rules, 9, 11);
        }
        due.state("refused works", rules, before);
    }

    private static void refusedNegate() {
        RangeRules rules = Due.rulesAround(10, -10);
        rules.work(0, 9, 10, 0, 1);
        State before = new State(9, 11, Due.LEAST, Due.LEAST + 1, -11, -10, -9, -1, 0, 1, 9, 10, 11,
                Due.GREATEST - 1, Due.GREATEST);
        due.answer("negate(1, 0)", rules.negate(1, 0), false);
        due.answer("negate(0, 5)", rules.negate(0, 5), false);
        due.answer("negate(-5, 0)", rules.negate(-5, 0), false);
        due.answer("negate(greatest, least)", rules.negate(Due.GREATEST, Due.LEAST), false);
        due.state("refused negates", rules, before);
    }

    private static void refusedCallsDoNotCountAsAround() {
        RangeRules rules = new RangeRules();
        for (int i = 1; i <= 60; i++) {
            rules.work(10, 0, 1, 0, 1);
            rules.work(0, 5, 5, 0, 1);
            rules.negate(1, 0);
            due.answer("around, time " + i, rules.around(10 * i), 7 + 3 * i);
        }
        due.answer("around, time 61", rules.around(1000), -1);
    }

    private static void noneChangesNothing() {
        RangeRules rules = Due.rulesAround(10);
        rules.work(0, 9, 10, 0, 1);
        State before = new State(9, 11, Due.LEAST, Due.LEAST + 1, -1, 0, 1, 9, 10, 11,
                Due.GREATEST - 1, Due.GREATEST);
        due.work(rules, 3, 0, 10, 0, 0, 0);
        due.state("division by 0 to 0", rules, before);
        due.work(rules, 4, 0, 10, 0, 0, 0);
        due.state("the rest by 0 to 0", rules, before);
    }
}
