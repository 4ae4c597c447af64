/** "Terms", the OPERATIONS 0 to 4: each sentence of theirs at its edges. */
public final class ArithmeticEdgesTest {
    private static final int LEAST = Due.LEAST;
    private static final int GREATEST = Due.GREATEST;

    private static final Due due = new Due();

    public static void main(String[] args) {
        due.sentence("0 +: [the least, the greatest result]");
        plus();
        due.sentence("1 -: [the least, the greatest result]");
        minus();
        due.sentence("2 *: so of the four products of ends");
        eachProductAsTheLeastAndTheGreatest();
        productsThatAreNoInts();
        due.sentence("3 /: none if the right range is 0 to 0");
        divideNone();
        due.sentence("3 /: cut towards 0");
        cutTowardsZero();
        due.sentence("3 /: -2147483648 / -1 as 2147483648");
        leastByMinusOne();
        due.sentence("3 /: those of -1, 1 and the right ends that are in the right range");
        divisorsInTheRightRange();
        divisorsOutsideTheRightRange();
        due.sentence("3 /: .. and not 0");
        rightEndZero();
        due.sentence("4 the rest: none likewise");
        restNone();
        due.sentence("4 the rest: with m the greatest amount of a right end, less 1");
        greatestAmount();
        amountOfTheLeastInt();
        due.sentence("4 the rest: [0, min(h, m)] if l is 0 or more");
        restOfNoneBelowZero();
        due.sentence("4 the rest: else [max(l, -m), 0] if h <= 0");
        restOfNoneAboveZero();
        due.sentence("4 the rest: else [max(l, -m), min(h, m)]");
        restOfBothSides();
        due.end();
    }

    private static void plus() {
        RangeRules rules = Due.rulesAround(10, -10, 20, -20);
        due.told(rules, 0, 9, 11, 10, 10, 19, 21);
        due.told(rules, 0, -11, -9, -10, -10, -21, -19);
        due.told(rules, 0, -10, 10, -10, 10, -20, 20);
        due.told(rules, 0, 0, 0, 0, 0, 0, 0);
        due.told(rules, 0, LEAST, -1, 0, 1, LEAST, 0);
        due.told(rules, 0, 0, GREATEST, -1, 0, -1, GREATEST);
        due.told(rules, 0, LEAST, LEAST, GREATEST, GREATEST, -1, -1);
        due.told(rules, 0, LEAST, GREATEST, 0, 0, LEAST, GREATEST);
        due.toldAllInts(rules, 0, LEAST, -1, -1, 0);
        due.toldAllInts(rules, 0, 0, GREATEST, 0, 1);
    }

    private static void minus() {
        RangeRules rules = Due.rulesAround(10, -10, 20, -20);
        due.told(rules, 1, 19, 21, 10, 10, 9, 11);
        due.told(rules, 1, 10, 10, 19, 21, -11, -9);
        due.told(rules, 1, -10, 10, -10, 10, -20, 20);
        due.told(rules, 1, 0, 0, 0, 0, 0, 0);
        due.told(rules, 1, LEAST, -1, -1, 0, LEAST, 0);
        due.told(rules, 1, 0, GREATEST, 0, 1, -1, GREATEST);
        due.told(rules, 1, LEAST, LEAST, LEAST, LEAST, 0, 0);
        due.told(rules, 1, -1, -1, LEAST, LEAST, GREATEST, GREATEST);
        due.told(rules, 1, -1, -1, GREATEST, GREATEST, LEAST, LEAST);
        due.toldAllInts(rules, 1, 0, 0, LEAST, LEAST);
        due.toldAllInts(rules, 1, LEAST, -1, 0, 1);
        due.toldAllInts(rules, 1, 0, GREATEST, -1, 0);
    }

    private static void eachProductAsTheLeastAndTheGreatest() {
        RangeRules rules = Due.rulesAround(3, 5, -3, -5, 15, -15, 9, -9, 25, -25);
        due.told(rules, 2, 3, 5, 3, 5, 9, 25);
        due.told(rules, 2, -5, -3, -5, -3, 9, 25);
        due.told(rules, 2, 3, 5, -5, -3, -25, -9);
        due.told(rules, 2, -5, -3, 3, 5, -25, -9);
        due.told(rules, 2, -3, 5, 3, 5, -15, 25);
        due.told(rules, 2, -3, 5, -5, -3, -25, 15);
        due.told(rules, 2, 3, 5, -3, 5, -15, 25);
        due.told(rules, 2, -5, -3, -3, 5, -25, 15);
        due.told(rules, 2, -3, 5, -5, 3, -25, 15);
        due.told(rules, 2, -5, 3, -5, 3, -15, 25);
        due.told(rules, 2, 0, 0, LEAST, GREATEST, 0, 0);
        due.told(rules, 2, LEAST, GREATEST, 0, 0, 0, 0);
    }

    private static void productsThatAreNoInts() {
        RangeRules rules = Due.rulesAround(65536, -65536, 32768, -32768);
        due.told(rules, 2, 65536, 65536, -32768, -32768, LEAST, LEAST);
        due.told(rules, 2, 65535, 65535, 32768, 32768, 65537, GREATEST - 1);
        due.toldAllInts(rules, 2, 65536, 65536, 32768, 32768);
        due.toldAllInts(rules, 2, -65536, -65536, -32768, -32768);
        due.toldAllInts(rules, 2, 65536, 65536, -32769, -32769);
        due.toldAllInts(rules, 2, 0, 65536, 0, 65536);
        due.toldAllInts(rules, 2, LEAST, LEAST, -1, -1);
        due.toldAllInts(rules, 2, LEAST, LEAST, LEAST, LEAST);
        due.toldAllInts(rules, 2, LEAST, LEAST, GREATEST, GREATEST);
        due.toldAllInts(rules, 2, GREATEST, GREATEST, GREATEST, GREATEST);
    }

    private static void divideNone() {
        none(3);
    }

    private static void restNone() {
        none(4);
    }

    private static void none(int op) {
        RangeRules rules = Due.rulesAround(10);
        due.told(rules, 0, 9, 10, 0, 1, 9, 11);
        due.work(rules, op, 9, 11, 0, 0, 0);
        due.work(rules, op, 0, 0, 0, 0, 0);
        due.work(rules, op, LEAST, LEAST, 0, 0, 0);
        due.work(rules, op, LEAST, GREATEST, 0, 0, 0);
        due.result("none", rules, 9, 11);
        due.work(rules, op, 9, 11, 0, 1, 1);
        due.work(rules, op, 9, 11, -1, 0, 1);
        due.work(rules, op, 9, 11, -1, 1, 1);
        due.work(rules, op, 0, 0, 1, 1, 1);
        due.result("0 by 1", rules, 0, 0);
    }

    private static void cutTowardsZero() {
        RangeRules rules = Due.rulesAround(3, 7, -3, -7, 20, -20);
        due.told(rules, 3, 20, 20, 7, 7, 2, 2);
        due.told(rules, 3, -20, -20, 7, 7, -2, -2);
        due.told(rules, 3, 20, 20, -7, -7, -2, -2);
        due.told(rules, 3, -20, -20, -7, -7, 2, 2);
        due.told(rules, 3, 21, 21, 7, 7, 3, 3);
        due.told(rules, 3, -1, -1, 7, 7, 0, 0);
        due.told(rules, 3, 1, 1, -7, -7, 0, 0);
        due.told(rules, 3, -6, 6, 7, 8, 0, 0);
        due.told(rules, 3, -7, 7, 7, 8, -1, 1);
        due.told(rules, 3, LEAST + 1, LEAST + 1, LEAST, LEAST, 0, 0);
        due.told(rules, 3, GREATEST, GREATEST, LEAST, LEAST, 0, 0);
        due.told(rules, 3, LEAST, LEAST, GREATEST, GREATEST, -1, -1);
    }

    private static void leastByMinusOne() {
        RangeRules rules = Due.rulesAround(7, -7);
        due.toldAllInts(rules, 3, LEAST, LEAST, -1, -1);
        due.toldAllInts(rules, 3, LEAST, 0, -7, -1);
        due.toldAllInts(rules, 3, LEAST, 0, -1, 7);
        due.toldAllInts(rules, 3, LEAST, 0, -7, 7);
        due.toldAllInts(rules, 3, LEAST, 0, -1, 0);
        due.told(rules, 3, LEAST + 1, 0, -7, -1, 0, GREATEST);
        due.told(rules, 3, LEAST, 0, -7, -6, 0, GREATEST - 1);
        due.told(rules, 3, LEAST, 0, 0, 7, LEAST, 0);
        due.told(rules, 3, GREATEST, GREATEST, -1, -1, LEAST + 1, LEAST + 1);
    }

    private static void divisorsInTheRightRange() {
        RangeRules rules = Due.rulesAround(10, -10, 100, -100, 50, -50);
        due.told(rules, 3, 100, 100, -10, 10, -100, 100);
        due.told(rules, 3, 100, 100, -10, 1, -100, 100);
        due.told(rules, 3, 100, 100, -1, 10, -100, 100);
        due.told(rules, 3, 100, 100, 1, 10, 10, 100);
        due.told(rules, 3, 100, 100, -10, -1, -100, -10);
        due.told(rules, 3, -100, 50, 1, 10, -100, 50);
        due.told(rules, 3, -100, 50, -10, -1, -50, 100);
        due.told(rules, 3, -100, 50, -1, 1, -100, 100);
        due.told(rules, 3, 100, 100, 1, 1, 100, 100);
        due.told(rules, 3, 100, 100, -1, -1, -100, -100);
    }

    private static void divisorsOutsideTheRightRange() {
        RangeRules rules = Due.rulesAround(3, -3, 10, -10, 100, -100, 50, -50);
        due.told(rules, 3, 100, 100, 2, 10, 10, 50);
        due.told(rules, 3, 100, 100, -10, -2, -50, -10);
        due.told(rules, 3, 100, 100, 0, 10, 10, 100);
        due.told(rules, 3, 100, 100, -10, 0, -100, -10);
        due.told(rules, 3, -100, 100, 2, 2, -50, 50);
        due.told(rules, 3, -100, 100, -2, -2, -50, 50);
    }

    private static void rightEndZero() {
        RangeRules rules = Due.rulesAround(10, -10, 100, -100);
        due.told(rules, 3, 100, 101, 0, 1, 100, 101);
        due.told(rules, 3, 100, 101, -1, 0, -101, -100);
        due.told(rules, 3, -100, 100, 0, GREATEST, -100, 100);
        due.told(rules, 3, 100, 100, LEAST, 0, -100, 0);
        due.told(rules, 3, 0, 0, 0, 1, 0, 0);
        due.told(rules, 3, 0, 0, -1, 0, 0, 0);
    }

    private static void greatestAmount() {
        RangeRules rules = Due.rulesAround(7, -7, 20, -20, 100, -100);
        due.told(rules, 4, 100, 100, 1, 8, 0, 7);
        due.told(rules, 4, 100, 100, -8, -1, 0, 7);
        due.told(rules, 4, 100, 100, -8, 6, 0, 7);
        due.told(rules, 4, 100, 100, -6, 8, 0, 7);
        due.told(rules, 4, 100, 100, -20, 20, 0, 19);
        due.told(rules, 4, 100, 100, 0, 8, 0, 7);
        due.told(rules, 4, 100, 100, -8, 0, 0, 7);
        due.told(rules, 4, -100, 100, 1, 1, 0, 0);
        due.told(rules, 4, -100, 100, -1, -1, 0, 0);
        due.told(rules, 4, -100, 100, -1, 1, 0, 0);
        due.told(rules, 4, -100, 100, 0, 1, 0, 0);
        due.told(rules, 4, -100, 100, -1, 0, 0, 0);
    }

    /** 2147483648 is no int, but 1 less is. */
    private static void amountOfTheLeastInt() {
        RangeRules rules = new RangeRules();
        due.told(rules, 4, 0, GREATEST, LEAST, LEAST, 0, GREATEST);
        due.told(rules, 4, 0, GREATEST, LEAST, GREATEST, 0, GREATEST);
        due.told(rules, 4, LEAST, 0, LEAST, 0, LEAST + 1, 0);
        due.told(rules, 4, LEAST, GREATEST, LEAST, LEAST, LEAST + 1, GREATEST);
        due.told(rules, 4, LEAST, GREATEST, GREATEST, GREATEST, LEAST + 1, GREATEST - 1);
        due.told(rules, 4, LEAST, GREATEST, LEAST + 1, 0, LEAST + 1, GREATEST - 1);
        due.told(rules, 4, LEAST, LEAST, LEAST, LEAST, LEAST + 1, 0);
    }

    private static void restOfNoneBelowZero() {
        RangeRules rules = Due.rulesAround(7, 20);
        due.told(rules, 4, 0, 6, 8, 8, 0, 6);
        due.told(rules, 4, 0, 7, 8, 8, 0, 7);
        due.told(rules, 4, 0, 8, 8, 8, 0, 7);
        due.told(rules, 4, 0, 0, 8, 8, 0, 0);
        due.told(rules, 4, 1, 1, 8, 8, 0, 1);
        due.told(rules, 4, 19, 20, 7, 8, 0, 7);
        due.told(rules, 4, 0, GREATEST, 8, 8, 0, 7);
        due.told(rules, 4, 6, 6, 20, 20, 0, 6);
    }

    private static void restOfNoneAboveZero() {
        RangeRules rules = Due.rulesAround(-7, -20, 7);
        due.told(rules, 4, -6, 0, 8, 8, -6, 0);
        due.told(rules, 4, -7, 0, 8, 8, -7, 0);
        due.told(rules, 4, -8, 0, 8, 8, -7, 0);
        due.told(rules, 4, -1, -1, 8, 8, -1, 0);
        due.told(rules, 4, -1, 0, 8, 8, -1, 0);
        due.told(rules, 4, -20, -19, 7, 8, -7, 0);
        due.told(rules, 4, LEAST, -1, 8, 8, -7, 0);
    }

    private static void restOfBothSides() {
        RangeRules rules = Due.rulesAround(-7, -20, 7, 20);
        due.told(rules, 4, -1, 1, 8, 8, -1, 1);
        due.told(rules, 4, -6, 20, 8, 8, -6, 7);
        due.told(rules, 4, -20, 6, 8, 8, -7, 6);
        due.told(rules, 4, -7, 7, 8, 8, -7, 7);
        due.told(rules, 4, -8, 8, 8, 8, -7, 7);
        due.told(rules, 4, -8, 1, 8, 8, -7, 1);
        due.told(rules, 4, -1, 8, 8, 8, -1, 7);
        due.told(rules, 4, LEAST, GREATEST, 8, 8, -7, 7);
    }
}
