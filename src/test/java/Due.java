/** Counts the answers that are not as due, and ends the test with exit code 1 if there was one. */
final class Due {
    static final int LEAST = Integer.MIN_VALUE;
    static final int GREATEST = Integer.MAX_VALUE;

    private int asked = 0;
    private int wrong = 0;
    private String sentence = "";
    private int askedOfSentence = 1;

    /** The document's words that the answers from here on are held to. */
    void sentence(String words) {
        endSentence();
        sentence = words;
        askedOfSentence = 0;
    }

    void answer(String call, long got, long want) {
        asked++;
        askedOfSentence++;
        if (got != want) {
            wrong++;
            String heading = sentence.isEmpty() ? "" : "\"" + sentence + "\": ";
            System.out.println(heading + call + " answered " + got + ", due is " + want);
        }
    }

    void answer(String call, boolean got, boolean want) {
        answer(call, got ? 1 : 0, want ? 1 : 0);
    }

    void result(String after, RangeRules rules, long low, long high) {
        answer(after + ": low()", rules.low(), low);
        answer(after + ": high()", rules.high(), high);
    }

    void told(RangeRules rules, int op, int l, int h, int m, int n, int low, int high) {
        String call = "work(" + op + ", " + l + ", " + h + ", " + m + ", " + n + ")";
        answer(call, rules.work(op, l, h, m, n), 1);
        result(call, rules, low, high);
    }

    void toldAllInts(RangeRules rules, int op, int l, int h, int m, int n) {
        told(rules, op, l, h, m, n, LEAST, GREATEST);
    }

    void work(RangeRules rules, int op, int l, int h, int m, int n, int want) {
        String call = "work(" + op + ", " + l + ", " + h + ", " + m + ", " + n + ")";
        answer(call, rules.work(op, l, h, m, n), want);
    }

    void negated(RangeRules rules, int l, int h, int low, int high) {
        String call = "negate(" + l + ", " + h + ")";
        answer(call, rules.negate(l, h), true);
        result(call, rules, low, high);
    }

    void state(String after, RangeRules rules, State want) {
        State got = new State(rules);
        if (!got.isAs(want)) {
            System.out.println("now " + got + ", due is " + want);
        }
        answer(after + ": the state is as due", got.isAs(want), true);
    }

    void end() {
        endSentence();
        System.out.println((asked - wrong) + " answers as due, " + wrong + " not");
        if (wrong != 0 || asked == 0) {
            System.exit(1);
        }
    }

    private void endSentence() {
        if (askedOfSentence == 0) {
            wrong++;
            System.out.println("\"" + sentence + "\": nothing was asked");
        }
    }

    static RangeRules rulesAround(int... numbers) {
        RangeRules rules = new RangeRules();
        for (int number : numbers) {
            rules.around(number);
        }
        return rules;
    }

    /** around was done 60 times, with 180 new thresholds: 9, 10, 11, 19, 20, 21 .. 599, 600, 601. */
    static RangeRules fullRules() {
        RangeRules rules = new RangeRules();
        for (int i = 1; i <= 60; i++) {
            rules.around(10 * i);
        }
        return rules;
    }
}
