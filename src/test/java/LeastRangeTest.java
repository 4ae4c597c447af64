/** "Terms", [l, h]: the least range that has l to h; if l or h is no int, all ints. */
public final class LeastRangeTest {
    private static final int LEAST = Due.LEAST;
    private static final int GREATEST = Due.GREATEST;

    private static final Due due = new Due();

    public static void main(String[] args) {
        due.sentence("[l, h] stands for the least range that has l to h");
        endsThatAreThresholds();
        endsBetweenThresholds();
        theThresholdsOfNow();
        lastInts();
        due.sentence("if l .. is no int, for all ints");
        lowerEndNoInt();
        due.sentence("if .. h is no int, for all ints");
        upperEndNoInt();
        due.sentence("if l or h is no int, for all ints (both)");
        bothEndsNoInt();
        due.end();
    }

    private static void endsThatAreThresholds() {
        RangeRules rules = Due.rulesAround(10, 20);
        due.told(rules, 0, 9, 10, 0, 1, 9, 11);
        due.told(rules, 0, 10, 10, 9, 11, 19, 21);
        due.told(rules, 0, 0, 0, LEAST, GREATEST, LEAST, GREATEST);
        due.told(rules, 0, 0, 0, LEAST + 1, GREATEST - 1, LEAST + 1, GREATEST - 1);
    }

    private static void endsBetweenThresholds() {
        RangeRules rules = Due.rulesAround(10, 20);
        due.told(rules, 0, 11, 11, 1, 1, 11, 19);
        due.told(rules, 1, 9, 9, 1, 1, 1, 9);
        due.told(rules, 0, 21, 21, 1, 1, 21, GREATEST - 1);
        due.told(rules, 1, 0, 0, 9, 10, LEAST + 1, -1);
        due.told(rules, 0, 1, 11, 1, 1, 1, 19);
    }

    private static void theThresholdsOfNow() {
        RangeRules rules = new RangeRules();
        due.told(rules, 0, 1, 1, 1, 1, 1, GREATEST - 1);
        rules.around(3);
        due.told(rules, 0, 1, 1, 1, 1, 2, 2);
        rules.clear();
        due.told(rules, 0, 1, 1, 1, 1, 1, GREATEST - 1);
    }

    /** The last ints on both sides are ints yet: the other end stays narrow. */
    private static void lastInts() {
        RangeRules rules = new RangeRules();
        due.told(rules, 0, LEAST + 1, LEAST + 1, -1, -1, LEAST, LEAST);
        due.told(rules, 0, GREATEST - 1, GREATEST - 1, 1, 1, GREATEST, GREATEST);
        due.told(rules, 1, LEAST + 1, 0, 0, 1, LEAST, 0);
        due.told(rules, 1, 0, GREATEST - 1, -1, 0, 0, GREATEST);
        due.told(rules, 2, LEAST, LEAST, 0, 1, LEAST, 0);
        due.told(rules, 2, LEAST + 1, LEAST + 1, -1, 0, 0, GREATEST);
        due.told(rules, 3, LEAST, LEAST, 1, 1, LEAST, LEAST);
        due.told(rules, 3, LEAST + 1, LEAST + 1, -1, -1, GREATEST, GREATEST);
        due.told(rules, 8, -1, 0, -1, -1, LEAST, 0);
        due.negated(rules, LEAST + 1, 0, 0, GREATEST);
    }

    /** Not LEAST to a narrow upper end. */
    private static void lowerEndNoInt() {
        RangeRules rules = Due.rulesAround(31);
        due.toldAllInts(rules, 0, LEAST, 0, -1, -1);
        due.toldAllInts(rules, 1, LEAST, 0, 1, 1);
        due.toldAllInts(rules, 2, LEAST + 1, 0, 1, 30);
        due.toldAllInts(rules, 8, LEAST, 0, 1, 1);
        due.toldAllInts(rules, 8, LEAST, 0, 31, 31);
    }

    /** Not a narrow lower end to GREATEST. */
    private static void upperEndNoInt() {
        RangeRules rules = Due.rulesAround(31);
        due.toldAllInts(rules, 0, 0, GREATEST, 1, 1);
        due.toldAllInts(rules, 1, 0, 0, LEAST, 0);
        due.toldAllInts(rules, 2, LEAST, 0, -1, -1);
        due.toldAllInts(rules, 3, LEAST, 0, -1, -1);
        due.toldAllInts(rules, 8, 0, 1, 31, 31);
        due.answer("negate(least, 0)", rules.negate(LEAST, 0), true);
        due.result("negate(least, 0)", rules, LEAST, GREATEST);
    }

    /** Sums that would be ints again if they were cut to 32 bits. */
    private static void bothEndsNoInt() {
        RangeRules rules = Due.rulesAround(65536, 1 << 30);
        due.toldAllInts(rules, 0, GREATEST, GREATEST, 1, GREATEST);
        due.toldAllInts(rules, 0, LEAST, LEAST, LEAST, -1);
        due.toldAllInts(rules, 0, LEAST, GREATEST, LEAST, GREATEST);
        due.toldAllInts(rules, 1, LEAST, LEAST, 1, GREATEST);
        due.toldAllInts(rules, 1, GREATEST, GREATEST, LEAST, -1);
        due.toldAllInts(rules, 2, 65536, 65537, 65536, 65536);
        due.toldAllInts(rules, 2, LEAST, LEAST, LEAST, LEAST);
        due.toldAllInts(rules, 2, LEAST, GREATEST, LEAST, GREATEST);
        due.toldAllInts(rules, 3, LEAST, LEAST, -1, -1);
        due.negated(rules, LEAST, LEAST, LEAST, GREATEST);
    }
}
