/** Promise 5: down tells the greatest threshold that is not above v. */
public final class DownTest {
    private static final Due due = new Due();

    public static void main(String[] args) {
        due.sentence("The greatest threshold that is not above v.");
        ofThresholds();
        besideThresholds();
        addedOutOfOrder();
        whenFull();
        changesNothing();
        due.end();
    }

    private static void down(RangeRules rules, int v, int want) {
        due.answer("down(" + v + ")", rules.down(v), want);
    }

    private static void ofThresholds() {
        RangeRules rules = Due.rulesAround(10);
        for (int v : new int[] {Due.LEAST, Due.LEAST + 1, -1, 0, 1, 9, 10, 11, Due.GREATEST - 1, Due.GREATEST}) {
            down(rules, v, v);
        }
    }

    private static void besideThresholds() {
        RangeRules rules = new RangeRules();
        down(rules, Due.LEAST + 2, Due.LEAST + 1);
        down(rules, -2, Due.LEAST + 1);
        down(rules, 2, 1);
        down(rules, Due.GREATEST - 2, 1);
        rules.around(10);
        down(rules, 8, 1);
        down(rules, 12, 11);
        rules.clear();
        down(rules, 12, 1);
    }

    private static void addedOutOfOrder() {
        RangeRules rules = Due.rulesAround(1000, -1000, 50, -50, 2000);
        down(rules, -5000, Due.LEAST + 1);
        down(rules, -1002, Due.LEAST + 1);
        down(rules, -1001, -1001);
        down(rules, -500, -999);
        down(rules, -50, -50);
        down(rules, -25, -49);
        down(rules, 25, 1);
        down(rules, 52, 51);
        down(rules, 1500, 1001);
        down(rules, 2002, 2001);
        down(rules, Due.GREATEST - 2, 2001);
    }

    private static void whenFull() {
        RangeRules rules = Due.fullRules();
        for (int i = 1; i <= 60; i++) {
            down(rules, 10 * i + 8, 10 * i + 1);
            down(rules, 10 * i - 1, 10 * i - 1);
        }
        down(rules, 8, 1);
        down(rules, Due.GREATEST - 2, 601);
    }

    private static void changesNothing() {
        RangeRules rules = Due.rulesAround(10);
        rules.negate(0, 1);
        State before = new State(rules);
        rules.down(30);
        rules.down(Due.LEAST);
        due.state("down", rules, before);
    }
}
