/** Counts the answers that are not as due, and ends the test with exit code 1 if there was one. */
final class Due {
    static final int LEAST = Integer.MIN_VALUE;
    static final int GREATEST = Integer.MAX_VALUE;

    private int asked = 0;
    private int wrong = 0;

    void answer(String call, long got, long want) {
        asked++;
        if (got != want) {
            wrong++;
            System.out.println(call + " answered " + got + ", due is " + want);
        }
    }

    void answer(String call, boolean got, boolean want) {
        answer(call, got ? 1 : 0, want ? 1 : 0);
    }

    void result(String after, RangeRules rules, long low, long high) {
        answer(after + ": low()", rules.low(), low);
        answer(after + ": high()", rules.high(), high);
    }

    void end() {
        System.out.println((asked - wrong) + " answers as due, " + wrong + " not");
        if (wrong != 0 || asked == 0) {
            System.exit(1);
        }
    }

    static RangeRules rulesAround(int... numbers) {
        RangeRules rules = new RangeRules();
        for (int number : numbers) {
            rules.around(number);
        }
        return rules;
    }
}
