/** "Terms", THRESHOLDS: the first seven, and what is added to them. */
public final class ThresholdsTest {
    private static final Due due = new Due();

    public static void main(String[] args) {
        due.sentence("-2147483648, -2147483647, -1, 0, 1, 2147483646, 2147483647 at first");
        firstSeven();
        due.sentence("at most 60 times .. are added");
        atMostSixtyTimes();
        sixtyTimesOfTheSame();
        due.sentence("n - 1, n, n + 1 are added");
        neighboursAndNoOthers();
        neighboursThatAreThere();
        due.sentence("as far as they are ints");
        noNumberBelowTheLeastInt();
        noNumberAboveTheGreatestInt();
        nextToTheEndsOfTheInts();
        due.end();
    }

    private static void firstSeven() {
        RangeRules rules = new RangeRules();
        due.state("new", rules, new State(0, 0,
                -2147483648, -2147483647, -1, 0, 1, 2147483646, 2147483647));
        for (int v : new int[] {-2147483648, -2147483647, -1, 0, 1, 2147483646, 2147483647}) {
            due.answer(v + " is a range's end", rules.negate(v, v), true);
        }
        for (int v : new int[] {-2147483646, -2, 2, 2147483645, 1073741824}) {
            due.answer(v + " is no range's end", rules.negate(v, v), false);
        }
    }

    private static void atMostSixtyTimes() {
        RangeRules rules = new RangeRules();
        for (int i = 1; i <= 59; i++) {
            rules.around(10 * i);
        }
        due.answer("size() after 59 times", rules.size(), 184);
        due.answer("around(600), time 60", rules.around(600), 187);
        due.answer("around(610), time 61", rules.around(610), -1);
        due.answer("up(602)", rules.up(602), Due.GREATEST - 1);
        int[] all = new int[187];
        System.arraycopy(new int[] {Due.LEAST, Due.LEAST + 1, -1, 0, 1, Due.GREATEST - 1, Due.GREATEST}, 0, all, 0, 7);
        for (int i = 0; i < 180; i++) {
            all[7 + i] = 10 * (i / 3 + 1) + i % 3 - 1;
        }
        due.state("60 times", rules, new State(0, 0, all));
        due.answer("the last one added is a range's end", rules.negate(601, 601), true);
    }

    /** The times are counted, not the thresholds: there would be room for more. */
    private static void sixtyTimesOfTheSame() {
        RangeRules rules = new RangeRules();
        for (int i = 1; i <= 60; i++) {
            due.answer("around(40), time " + i, rules.around(40), 10);
        }
        due.answer("around(80), time 61", rules.around(80), -1);
        due.answer("around(40), time 62", rules.around(40), -1);
        due.answer("size()", rules.size(), 10);
    }

    private static void neighboursAndNoOthers() {
        RangeRules rules = Due.rulesAround(-70, 70);
        due.state("around -70 and 70", rules, new State(0, 0, Due.LEAST, Due.LEAST + 1,
                -71, -70, -69, -1, 0, 1, 69, 70, 71, Due.GREATEST - 1, Due.GREATEST));
        for (int v : new int[] {-72, -68, 68, 72}) {
            due.answer(v + " is no range's end", rules.negate(v, v), false);
        }
        for (int v : new int[] {-71, -70, -69, 69, 70, 71}) {
            due.answer(v + " is a range's end", rules.negate(v, v), true);
        }
    }

    private static void neighboursThatAreThere() {
        RangeRules rules = new RangeRules();
        due.answer("around(0): all three are there", rules.around(0), 7);
        due.answer("around(2): 1 is there", rules.around(2), 9);
        due.answer("around(-1): -1 and 0 are there", rules.around(-1), 10);
        due.answer("around(5)", rules.around(5), 13);
        due.answer("around(4): 3, 4 and 5 are there", rules.around(4), 13);
        due.answer("around(7): 6 is there", rules.around(7), 15);
        due.answer("around(8): 7 and 8 are there", rules.around(8), 16);
        due.state("those", rules, new State(0, 0, Due.LEAST, Due.LEAST + 1,
                -2, -1, 0, 1, 2, 3, 4, 5, 6, 7, 8, 9, Due.GREATEST - 1, Due.GREATEST));
    }

    private static void noNumberBelowTheLeastInt() {
        RangeRules rules = new RangeRules();
        due.answer("around(least)", rules.around(Due.LEAST), 7);
        due.state("around(least)", rules, new State(0, 0, Due.LEAST, Due.LEAST + 1,
                -1, 0, 1, Due.GREATEST - 1, Due.GREATEST));
    }

    private static void noNumberAboveTheGreatestInt() {
        RangeRules rules = new RangeRules();
        due.answer("around(greatest)", rules.around(Due.GREATEST), 7);
        due.state("around(greatest)", rules, new State(0, 0, Due.LEAST, Due.LEAST + 1,
                -1, 0, 1, Due.GREATEST - 1, Due.GREATEST));
    }

    private static void nextToTheEndsOfTheInts() {
        RangeRules rules = new RangeRules();
        due.answer("around(least + 1)", rules.around(Due.LEAST + 1), 8);
        due.answer("around(greatest - 1)", rules.around(Due.GREATEST - 1), 9);
        due.answer("around(least + 2)", rules.around(Due.LEAST + 2), 10);
        due.answer("around(greatest - 2)", rules.around(Due.GREATEST - 2), 11);
        due.state("next to the ends", rules, new State(0, 0, Due.LEAST, Due.LEAST + 1, Due.LEAST + 2,
                Due.LEAST + 3, -1, 0, 1, Due.GREATEST - 3, Due.GREATEST - 2, Due.GREATEST - 1, Due.GREATEST));
    }
}
