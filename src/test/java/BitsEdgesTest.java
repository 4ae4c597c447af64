/** "Terms", the OPERATIONS 5 to 9: each sentence of theirs at its edges. */
public final class BitsEdgesTest {
    private static final int LEAST = Due.LEAST;
    private static final int GREATEST = Due.GREATEST;

    private static final Due due = new Due();

    public static void main(String[] args) {
        due.sentence("5 and: l and m (the lower ends) both below 0: all ints");
        andBothBelowZero();
        due.sentence("5 and: else [0, the least of the upper ends of those that are not below 0]");
        andOneNotBelowZero();
        andBothNotBelowZero();
        for (int op = 6; op <= 7; op++) {
            due.sentence("6 or, 7 xor: l or m below 0: all ints (" + op + ")");
            orBelowZero(op);
            due.sentence("6 or, 7 xor: else [0, the least 2^k - 1 not below both upper ends] (" + op + ")");
            orNotBelowZero(op);
            everyPowerOfTwo(op);
        }
        due.sentence("8 shift left: if m is n, as * by 2^(m & 31) to 2^(m & 31)");
        shiftLeft();
        shiftLeftByEveryCount();
        due.sentence("8 shift left: 2^31 above 0");
        shiftLeftByThirtyOne();
        due.sentence("8 shift left: else all ints");
        shiftLeftByMoreThanOneCount();
        due.sentence("9 shift right, keeping the sign: if m is n, [l >> (m & 31), h >> (m & 31)]");
        shiftRight();
        shiftRightByEveryCount();
        due.sentence("9 shift right: else [min(l, 0), max(h, -1)]");
        shiftRightByMoreThanOneCount();
        due.end();
    }

    private static void andBothBelowZero() {
        RangeRules rules = Due.rulesAround(10, -10);
        due.toldAllInts(rules, 5, -1, -1, -1, -1);
        due.toldAllInts(rules, 5, -1, 10, -1, 0);
        due.toldAllInts(rules, 5, LEAST, LEAST, LEAST, LEAST);
        due.toldAllInts(rules, 5, -10, GREATEST, -1, 10);
        due.toldAllInts(rules, 5, LEAST, GREATEST, LEAST, GREATEST);
    }

    private static void andOneNotBelowZero() {
        RangeRules rules = Due.rulesAround(10, 20, -10);
        due.told(rules, 5, -1, -1, 0, 20, 0, 20);
        due.told(rules, 5, 0, 20, -1, -1, 0, 20);
        due.told(rules, 5, -1, 10, 0, 20, 0, 20);
        due.told(rules, 5, 0, 20, -1, 10, 0, 20);
        due.told(rules, 5, -10, 0, 10, 20, 0, 20);
        due.told(rules, 5, 10, 20, LEAST, 0, 0, 20);
        due.told(rules, 5, LEAST, LEAST, 0, 0, 0, 0);
        due.told(rules, 5, 0, 0, LEAST, LEAST, 0, 0);
        due.told(rules, 5, LEAST, GREATEST, GREATEST, GREATEST, 0, GREATEST);
    }

    private static void andBothNotBelowZero() {
        RangeRules rules = Due.rulesAround(10, 20);
        due.told(rules, 5, 0, 10, 0, 20, 0, 10);
        due.told(rules, 5, 0, 20, 0, 10, 0, 10);
        due.told(rules, 5, 20, 20, 10, 10, 0, 10);
        due.told(rules, 5, 10, 10, 10, 10, 0, 10);
        due.told(rules, 5, 0, 0, 0, GREATEST, 0, 0);
        due.told(rules, 5, 0, GREATEST, 0, 0, 0, 0);
        due.told(rules, 5, GREATEST, GREATEST, GREATEST, GREATEST, 0, GREATEST);
    }

    private static void orBelowZero(int op) {
        RangeRules rules = Due.rulesAround(10, -10);
        due.toldAllInts(rules, op, -1, -1, 0, 0);
        due.toldAllInts(rules, op, 0, 0, -1, -1);
        due.toldAllInts(rules, op, -1, 10, 1, 10);
        due.toldAllInts(rules, op, 1, 10, -1, 10);
        due.toldAllInts(rules, op, -10, -9, -10, -9);
        due.toldAllInts(rules, op, LEAST, LEAST, 0, 0);
        due.toldAllInts(rules, op, 0, 0, LEAST, LEAST);
    }

    private static void orNotBelowZero(int op) {
        RangeRules rules = Due.rulesAround(3, 7, 15);
        due.told(rules, op, 0, 0, 0, 0, 0, 0);
        due.told(rules, op, 0, 0, 0, 1, 0, 1);
        due.told(rules, op, 1, 1, 0, 0, 0, 1);
        due.told(rules, op, 0, 2, 0, 1, 0, 3);
        due.told(rules, op, 3, 3, 3, 3, 0, 3);
        due.told(rules, op, 0, 4, 0, 3, 0, 7);
        due.told(rules, op, 0, 3, 0, 4, 0, 7);
        due.told(rules, op, 7, 7, 6, 6, 0, 7);
        due.told(rules, op, 0, 8, 0, 0, 0, 15);
        due.told(rules, op, 16, 16, 0, 0, 0, GREATEST - 1);
        due.told(rules, op, 0, GREATEST - 1, 0, 0, 0, GREATEST);
        due.told(rules, op, 0, 0, 0, GREATEST, 0, GREATEST);
        due.told(rules, op, GREATEST, GREATEST, GREATEST, GREATEST, 0, GREATEST);
    }

    private static void everyPowerOfTwo(int op) {
        for (int k = 2; k <= 30; k++) {
            int power = 1 << k;
            int next = (int) ((1L << (k + 1)) - 1);
            RangeRules rules = Due.rulesAround(power, next);
            due.told(rules, op, 0, power - 1, 0, 1, 0, power - 1);
            due.told(rules, op, 0, power, 0, 1, 0, next);
            due.told(rules, op, 0, 1, 0, power + 1, 0, next);
            due.told(rules, op, 0, next, 0, power, 0, next);
        }
    }

    private static void shiftLeft() {
        RangeRules rules = Due.rulesAround(3, 12, -12, 32, 64, -3);
        due.told(rules, 8, 3, 3, 2, 2, 12, 12);
        due.told(rules, 8, -3, 3, 2, 2, -12, 12);
        due.told(rules, 8, 2, 4, 4, 4, 32, 64);
        due.told(rules, 8, 3, 4, 0, 0, 3, 4);
        due.told(rules, 8, 3, 4, 32, 32, 3, 4);
        due.told(rules, 8, 0, 1, 33, 33, 0, 2);
        due.told(rules, 8, 3, 4, 64, 64, 3, 4);
        due.told(rules, 8, 3, 4, LEAST, LEAST, 3, 4);
        due.told(rules, 8, 0, 1, LEAST + 1, LEAST + 1, 0, 2);
        due.told(rules, 8, 0, 0, GREATEST, GREATEST, 0, 0);
        due.told(rules, 8, 0, 0, GREATEST - 1, GREATEST - 1, 0, 0);
        due.told(rules, 8, -2, -2, GREATEST - 1, GREATEST - 1, LEAST, LEAST);
    }

    private static void shiftLeftByEveryCount() {
        for (int count = 0; count <= 30; count++) {
            RangeRules rules = Due.rulesAround(count, count - 32, 1 << count, -(1 << count));
            due.told(rules, 8, 1, 1, count, count, 1 << count, 1 << count);
            due.told(rules, 8, -1, -1, count, count, -(1 << count), -(1 << count));
            due.told(rules, 8, -1, 1, count - 32, count - 32, -(1 << count), 1 << count);
        }
    }

    private static void shiftLeftByThirtyOne() {
        RangeRules rules = Due.rulesAround(31, -3, 63);
        due.toldAllInts(rules, 8, 1, 1, 31, 31);
        due.toldAllInts(rules, 8, 0, 1, 31, 31);
        due.toldAllInts(rules, 8, 1, 1, -1, -1);
        due.toldAllInts(rules, 8, 1, 1, 63, 63);
        due.toldAllInts(rules, 8, 1, 1, GREATEST, GREATEST);
        due.toldAllInts(rules, 8, -2, -2, 31, 31);
        due.toldAllInts(rules, 8, LEAST, LEAST, 31, 31);
        due.toldAllInts(rules, 8, GREATEST, GREATEST, 31, 31);
        due.told(rules, 8, 0, 0, 31, 31, 0, 0);
        due.told(rules, 8, -1, -1, 31, 31, LEAST, LEAST);
        due.told(rules, 8, -1, 0, 31, 31, LEAST, 0);
        due.told(rules, 8, -1, 0, GREATEST, GREATEST, LEAST, 0);
    }

    private static void shiftLeftByMoreThanOneCount() {
        RangeRules rules = Due.rulesAround(3, 32);
        due.toldAllInts(rules, 8, 0, 0, 0, 1);
        due.toldAllInts(rules, 8, 1, 1, 2, 3);
        due.toldAllInts(rules, 8, 1, 1, -1, 0);
        due.toldAllInts(rules, 8, 1, 1, 0, 32);
        due.toldAllInts(rules, 8, 0, 0, LEAST, GREATEST);
    }

    private static void shiftRight() {
        RangeRules rules = Due.rulesAround(3, 12, -12, 32, -3, 24);
        due.told(rules, 9, 12, 24, 3, 3, 1, 3);
        due.told(rules, 9, -12, 12, 2, 2, -3, 3);
        due.told(rules, 9, -13, -11, 2, 2, -4, -3);
        due.told(rules, 9, -3, -3, 1, 1, -2, -2);
        due.told(rules, 9, -1, -1, 3, 3, -1, -1);
        due.told(rules, 9, 1, 1, 1, 1, 0, 0);
        due.told(rules, 9, -12, 12, 0, 0, -12, 12);
        due.told(rules, 9, -12, 12, 32, 32, -12, 12);
        due.told(rules, 9, -4, 4, 33, 33, -2, 2);
        due.told(rules, 9, -12, 12, LEAST, LEAST, -12, 12);
        due.told(rules, 9, LEAST, GREATEST, 31, 31, -1, 0);
        due.told(rules, 9, LEAST, GREATEST, -1, -1, -1, 0);
        due.told(rules, 9, LEAST, GREATEST, GREATEST, GREATEST, -1, 0);
        due.told(rules, 9, LEAST, LEAST, GREATEST - 1, GREATEST - 1, -2, -2);
        due.told(rules, 9, LEAST, GREATEST, 0, 0, LEAST, GREATEST);
    }

    private static void shiftRightByEveryCount() {
        for (int count = 0; count <= 31; count++) {
            int lower = LEAST >> count;
            int upper = GREATEST >> count;
            RangeRules rules = Due.rulesAround(count, count - 32, lower, upper);
            due.told(rules, 9, LEAST, GREATEST, count, count, lower, upper);
            due.told(rules, 9, LEAST, LEAST, count, count, lower, lower);
            due.told(rules, 9, GREATEST, GREATEST, count - 32, count - 32, upper, upper);
        }
    }

    private static void shiftRightByMoreThanOneCount() {
        RangeRules rules = Due.rulesAround(3, 32, -3);
        due.told(rules, 9, 1, 1, 0, 1, 0, 1);
        due.told(rules, 9, 3, 4, 0, 1, 0, 4);
        due.told(rules, 9, 0, 4, 0, 1, 0, 4);
        due.told(rules, 9, -1, 4, 0, 1, -1, 4);
        due.told(rules, 9, -1, 0, 0, 1, -1, 0);
        due.told(rules, 9, -1, -1, 0, 1, -1, -1);
        due.told(rules, 9, -4, -2, 0, 1, -4, -1);
        due.told(rules, 9, -4, -4, 31, 32, -4, -1);
        due.told(rules, 9, 4, 4, -1, 0, 0, 4);
        due.told(rules, 9, 4, 4, 0, 32, 0, 4);
        due.told(rules, 9, LEAST, LEAST, LEAST, GREATEST, LEAST, -1);
        due.told(rules, 9, GREATEST, GREATEST, LEAST, GREATEST, 0, GREATEST);
    }
}
