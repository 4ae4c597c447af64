/** Promises 5 and 6: the thresholds next to a number, on both sides. */
public final class DownUpTest {
    public static void main(String[] args) {
        Due due = new Due();
        firstThresholds(due);
        addedOutOfOrder(due);
        leavesTheResult(due);
        due.end();
    }

    private static void firstThresholds(Due due) {
        RangeRules rules = new RangeRules();
        both(due, rules, Due.LEAST, Due.LEAST, Due.LEAST);
        both(due, rules, Due.LEAST + 1, Due.LEAST + 1, Due.LEAST + 1);
        both(due, rules, Due.LEAST + 2, Due.LEAST + 1, -1);
        both(due, rules, -2, Due.LEAST + 1, -1);
        both(due, rules, -1, -1, -1);
        both(due, rules, 0, 0, 0);
        both(due, rules, 1, 1, 1);
        both(due, rules, 2, 1, Due.GREATEST - 1);
        both(due, rules, Due.GREATEST - 2, 1, Due.GREATEST - 1);
        both(due, rules, Due.GREATEST - 1, Due.GREATEST - 1, Due.GREATEST - 1);
        both(due, rules, Due.GREATEST, Due.GREATEST, Due.GREATEST);
    }

    private static void addedOutOfOrder(Due due) {
        RangeRules rules = Due.rulesAround(1000, -1000, 50, -50, 2000);
        both(due, rules, -5000, Due.LEAST + 1, -1001);
        both(due, rules, -1001, -1001, -1001);
        both(due, rules, -500, -999, -51);
        both(due, rules, -50, -50, -50);
        both(due, rules, -25, -49, -1);
        both(due, rules, 25, 1, 49);
        both(due, rules, 52, 51, 999);
        both(due, rules, 1500, 1001, 1999);
        both(due, rules, 2001, 2001, 2001);
        both(due, rules, 2002, 2001, Due.GREATEST - 1);
    }

    private static void leavesTheResult(Due due) {
        RangeRules rules = Due.rulesAround(10);
        rules.negate(0, 1);
        rules.down(30);
        rules.up(5);
        due.result("negate(0, 1), then down and up", rules, -1, 0);
    }

    private static void both(Due due, RangeRules rules, int v, int down, int up) {
        due.answer("down(" + v + ")", rules.down(v), down);
        due.answer("up(" + v + ")", rules.up(v), up);
    }
}
