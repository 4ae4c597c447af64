/** Promise 6: up tells the least threshold that is not below v. */
public final class UpTest {
    private static final Due due = new Due();

    public static void main(String[] args) {
        due.sentence("The least threshold that is not below v.");
        ofThresholds();
        besideThresholds();
        addedOutOfOrder();
        whenFull();
        changesNothing();
        due.end();
    }

    private static void up(RangeRules rules, int v, int want) {
        due.answer("up(" + v + ")", rules.up(v), want);
    }

    private static void ofThresholds() {
        RangeRules rules = Due.rulesAround(10);
        for (int v : new int[] {Due.LEAST, Due.LEAST + 1, -1, 0, 1, 9, 10, 11, Due.GREATEST - 1, Due.GREATEST}) {
            up(rules, v, v);
        }
    }

    private static void besideThresholds() {
        RangeRules rules = new RangeRules();
        up(rules, Due.LEAST + 2, -1);
        up(rules, -2, -1);
        up(rules, 2, Due.GREATEST - 1);
        up(rules, Due.GREATEST - 2, Due.GREATEST - 1);
        rules.around(10);
        up(rules, 2, 9);
        up(rules, 8, 9);
        up(rules, 12, Due.GREATEST - 1);
        rules.clear();
        up(rules, 8, Due.GREATEST - 1);
    }

    private static void addedOutOfOrder() {
        RangeRules rules = Due.rulesAround(1000, -1000, 50, -50, 2000);
        up(rules, Due.LEAST + 2, -1001);
        up(rules, -5000, -1001);
        up(rules, -999, -999);
        up(rules, -500, -51);
        up(rules, -50, -50);
        up(rules, -25, -1);
        up(rules, 25, 49);
        up(rules, 52, 999);
        up(rules, 1500, 1999);
        up(rules, 2001, 2001);
        up(rules, 2002, Due.GREATEST - 1);
    }

    private static void whenFull() {
        RangeRules rules = Due.fullRules();
        for (int i = 1; i <= 60; i++) {
            up(rules, 10 * i - 8, 10 * i - 1);
            up(rules, 10 * i + 1, 10 * i + 1);
        }
        up(rules, 602, Due.GREATEST - 1);
        up(rules, Due.LEAST + 2, -1);
    }

    private static void changesNothing() {
        RangeRules rules = Due.rulesAround(10);
        rules.negate(0, 1);
        State before = new State(rules);
        rules.up(30);
        rules.up(Due.GREATEST);
        due.state("up", rules, before);
    }
}
