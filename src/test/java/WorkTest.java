/** Promise 7: the operations 0 to 9, their edges, and what is refused. */
public final class WorkTest {
    private static final int LEAST = Due.LEAST;
    private static final int GREATEST = Due.GREATEST;

    private static final Due due = new Due();

    public static void main(String[] args) {
        due.sentence("An operation 0 .. 9: 1, and the result is told");
        plusAndMinus();
        times();
        divide();
        rest();
        and();
        orAndXor();
        shiftLeft();
        shiftRight();
        due.sentence("0 if there is none (what was told stays)");
        none();
        due.sentence("-1 if op is another number");
        anotherNumber();
        due.sentence("-1 if .. l to h .. is no range");
        leftNoRange();
        due.sentence("-1 if .. m to n is no range");
        rightNoRange();
        due.end();
    }

    private static void plusAndMinus() {
        RangeRules rules = Due.rulesAround(5, 10, 15, -5, -10);
        due.told(rules, 0, 4, 5, 5, 10, 9, 15);
        due.told(rules, 0, 5, 6, 6, 6, 11, 14);
        due.told(rules, 0, -6, -5, 0, 1, -6, -4);
        due.told(rules, 0, LEAST, -1, 0, 0, LEAST, -1);
        due.told(rules, 0, LEAST, -1, -1, 0, LEAST, GREATEST);
        due.told(rules, 0, 0, GREATEST, 0, 1, LEAST, GREATEST);
        due.told(rules, 0, 1, GREATEST - 1, 1, 1, 1, GREATEST);
        due.told(rules, 0, LEAST + 1, 0, -1, -1, LEAST, -1);
        due.told(rules, 0, GREATEST, GREATEST, GREATEST, GREATEST, LEAST, GREATEST);
        due.told(rules, 0, LEAST, LEAST, LEAST, LEAST, LEAST, GREATEST);
        due.told(rules, 0, LEAST, LEAST, GREATEST, GREATEST, -1, -1);
        due.told(rules, 1, 10, 16, 4, 5, 5, 14);
        due.told(rules, 1, 4, 5, 9, 10, -6, -4);
        due.told(rules, 1, 0, 0, LEAST + 1, 0, 0, GREATEST);
        due.told(rules, 1, 0, 0, LEAST, 0, LEAST, GREATEST);
        due.told(rules, 1, -1, -1, LEAST, 0, -1, GREATEST);
        due.told(rules, 1, LEAST, 0, 0, 1, LEAST, GREATEST);
        due.told(rules, 1, GREATEST, GREATEST, LEAST, LEAST, LEAST, GREATEST);
    }

    private static void times() {
        RangeRules rules = Due.rulesAround(3, 10, 20, 40, -20, 65536, -65536);
        due.told(rules, 2, 3, 4, 3, 10, 9, 40);
        due.told(rules, 2, -1, 10, -1, 4, -19, 40);
        due.told(rules, 2, -20, 2, -1, 2, -65535, 20);
        due.told(rules, 2, -20, -19, -1, 0, 0, 20);
        due.told(rules, 2, 0, 0, LEAST, GREATEST, 0, 0);
        due.told(rules, 2, LEAST, LEAST, 1, 1, LEAST, LEAST);
        due.told(rules, 2, LEAST, LEAST, -1, -1, LEAST, GREATEST);
        due.told(rules, 2, LEAST + 1, LEAST + 1, -1, -1, GREATEST, GREATEST);
        due.told(rules, 2, LEAST, LEAST, LEAST, LEAST, LEAST, GREATEST);
        due.told(rules, 2, 65536, 65536, 65536, 65536, LEAST, GREATEST);
        due.told(rules, 2, 0, 65536, -65536, -1, LEAST, GREATEST);
        due.told(rules, 2, 0, 65535, 0, 40, 0, GREATEST - 1);
    }

    private static void divide() {
        RangeRules rules = Due.rulesAround(7, 20, 100, -7, -20, -100);
        due.told(rules, 3, 0, 100, 6, 7, 0, 19);
        due.told(rules, 3, 100, 101, -7, 7, -101, 101);
        due.told(rules, 3, -101, 19, -1, 7, -101, 101);
        due.told(rules, 3, -101, 19, 0, 7, -101, 19);
        due.told(rules, 3, -101, 19, -7, 0, -19, 101);
        due.told(rules, 3, 20, 21, 7, 7, 1, 6);
        due.told(rules, 3, 20, 21, 7, 20, 1, 6);
        due.told(rules, 3, 20, 21, -20, -7, -6, -1);
        due.told(rules, 3, -20, -19, 7, 8, -6, -1);
        due.told(rules, 3, 1, 1, 7, 8, 0, 0);
        due.told(rules, 3, -1, -1, 7, 8, 0, 0);
        due.told(rules, 3, 100, 101, 1, 1, 100, 101);
        due.told(rules, 3, 100, 101, -1, -1, -101, -100);
        due.told(rules, 3, 100, 101, 0, 1, 100, 101);
        due.told(rules, 3, 100, 101, -1, 0, -101, -100);
        due.told(rules, 3, LEAST, LEAST, -1, -1, LEAST, GREATEST);
        due.told(rules, 3, LEAST, 0, -7, 0, LEAST, GREATEST);
        due.told(rules, 3, LEAST + 1, 0, -7, 0, 0, GREATEST);
        due.told(rules, 3, LEAST, LEAST, LEAST, LEAST, 1, 1);
        due.told(rules, 3, LEAST, LEAST, GREATEST, GREATEST, -1, -1);
        due.told(rules, 3, LEAST, LEAST, 1, GREATEST, LEAST, -1);
    }

    private static void rest() {
        RangeRules rules = Due.rulesAround(7, 20, 100, -7, -20, -100);
        due.told(rules, 4, 0, 100, 1, 7, 0, 6);
        due.told(rules, 4, 0, 6, 1, 100, 0, 6);
        due.told(rules, 4, 100, 101, 1, 8, 0, 7);
        due.told(rules, 4, 0, 100, -8, 7, 0, 7);
        due.told(rules, 4, 0, 100, -21, 8, 0, 20);
        due.told(rules, 4, -100, 0, 1, 8, -7, 0);
        due.told(rules, 4, -100, -99, -20, 8, -19, 0);
        due.told(rules, 4, -6, -6, 0, 20, -6, 0);
        due.told(rules, 4, -100, 100, 7, 8, -7, 7);
        due.told(rules, 4, -1, 100, 7, 8, -1, 7);
        due.told(rules, 4, -100, 1, -8, 0, -7, 1);
        due.told(rules, 4, 0, 0, 1, 8, 0, 0);
        due.told(rules, 4, -100, 100, -1, 1, 0, 0);
        due.told(rules, 4, -100, 100, 0, 1, 0, 0);
        due.told(rules, 4, -100, 100, -1, 0, 0, 0);
        due.told(rules, 4, LEAST, GREATEST, LEAST, 0, LEAST + 1, GREATEST);
        due.told(rules, 4, LEAST, GREATEST, 0, GREATEST, LEAST + 1, GREATEST - 1);
        due.told(rules, 4, LEAST, -1, LEAST, LEAST, LEAST + 1, 0);
    }

    private static void and() {
        RangeRules rules = Due.rulesAround(7, 20, 100, -7);
        due.told(rules, 5, 6, 20, 7, 100, 0, 20);
        due.told(rules, 5, 6, 100, 7, 20, 0, 20);
        due.told(rules, 5, -1, 20, 7, 100, 0, 100);
        due.told(rules, 5, 7, 100, LEAST, 20, 0, 100);
        due.told(rules, 5, -7, -6, 7, 8, 0, 8);
        due.told(rules, 5, -1, -1, -1, -1, LEAST, GREATEST);
        due.told(rules, 5, -7, 100, -1, 20, LEAST, GREATEST);
        due.told(rules, 5, 0, 0, LEAST, GREATEST, 0, 0);
        due.told(rules, 5, 0, GREATEST, 0, GREATEST, 0, GREATEST);
    }

    private static void orAndXor() {
        RangeRules rules = Due.rulesAround(4, 8, 15, 31, 63, 1 << 30);
        for (int op = 6; op <= 7; op++) {
            due.told(rules, op, 0, 0, 0, 0, 0, 0);
            due.told(rules, op, 0, 1, 0, 0, 0, 1);
            due.told(rules, op, 1, 3, 0, 1, 0, 3);
            due.told(rules, op, 0, 4, 3, 3, 0, 7);
            due.told(rules, op, 0, 8, 0, 5, 0, 15);
            due.told(rules, op, 8, 15, 4, 8, 0, 15);
            due.told(rules, op, 16, 16, 30, 31, 0, 31);
            due.told(rules, op, 31, 32, 0, 0, 0, 63);
            due.told(rules, op, 0, 0, 64, 64, 0, (1 << 30) - 1);
            due.told(rules, op, 0, (1 << 30) - 1, 0, 0, 0, (1 << 30) - 1);
            due.told(rules, op, 0, 1 << 30, 0, 0, 0, GREATEST);
            due.told(rules, op, 0, GREATEST, 0, GREATEST, 0, GREATEST);
            due.told(rules, op, -1, 0, 0, 0, LEAST, GREATEST);
            due.told(rules, op, 0, 0, -1, 0, LEAST, GREATEST);
            due.told(rules, op, -1, -1, LEAST, 0, LEAST, GREATEST);
        }
    }

    private static void shiftLeft() {
        RangeRules rules = Due.rulesAround(4, 31, 32, 64, -64, 1 << 30);
        due.told(rules, 8, 3, 4, 3, 3, 5, 32);
        due.told(rules, 8, 4, 4, 4, 4, 64, 64);
        due.told(rules, 8, -1, 1, 0, 0, -1, 1);
        due.told(rules, 8, -64, 4, 32, 32, -64, 4);
        due.told(rules, 8, -64, 4, 33, 33, LEAST + 1, 30);
        due.told(rules, 8, 0, 0, 31, 31, 0, 0);
        due.told(rules, 8, -1, 0, 31, 31, LEAST, 0);
        due.told(rules, 8, -1, -1, -1, -1, LEAST, LEAST);
        due.told(rules, 8, 0, 1, 31, 31, LEAST, GREATEST);
        due.told(rules, 8, 1, 1, -1, -1, LEAST, GREATEST);
        due.told(rules, 8, 0, 1 << 30, 1, 1, LEAST, GREATEST);
        due.told(rules, 8, 0, (1 << 30) - 1, 1, 1, 0, GREATEST - 1);
        due.told(rules, 8, LEAST, LEAST, 31, 31, LEAST, GREATEST);
        due.told(rules, 8, 5, 5, LEAST, LEAST, 5, 5);
        due.told(rules, 8, 0, 0, 0, 1, LEAST, GREATEST);
        due.told(rules, 8, 1, 1, 0, 32, LEAST, GREATEST);
    }

    private static void shiftRight() {
        RangeRules rules = Due.rulesAround(4, 32, 64, -64, -8, 16);
        due.told(rules, 9, 16, 64, 3, 3, 1, 15);
        due.told(rules, 9, 32, 64, 1, 1, 16, 32);
        due.told(rules, 9, -64, -9, 3, 3, -8, -1);
        due.told(rules, 9, -65, 4, 3, 3, -9, 0);
        due.told(rules, 9, -64, 64, 32, 32, -64, 64);
        due.told(rules, 9, -64, 64, 33, 33, -63, 32);
        due.told(rules, 9, LEAST, GREATEST, -1, -1, -1, 0);
        due.told(rules, 9, LEAST, GREATEST, LEAST, LEAST, LEAST, GREATEST);
        due.told(rules, 9, 16, 64, 0, 1, 0, 64);
        due.told(rules, 9, -64, -8, 0, 1, -64, -1);
        due.told(rules, 9, -64, 4, 3, 4, -64, 4);
        due.told(rules, 9, LEAST, -1, LEAST, GREATEST, LEAST, -1);
    }

    private static void none() {
        RangeRules rules = Due.rulesAround(10);
        due.told(rules, 0, 9, 10, 0, 1, 9, 11);
        for (int op = 3; op <= 4; op++) {
            due.work(rules, op, 0, 10, 0, 0, 0);
            due.work(rules, op, 0, 0, 0, 0, 0);
            due.work(rules, op, LEAST, GREATEST, 0, 0, 0);
        }
        due.result("calls without a result", rules, 9, 11);
        for (int op = 0; op <= 9; op++) {
            due.work(rules, op, 1, 1, 0, 0, op == 3 || op == 4 ? 0 : 1);
        }
    }

    private static void anotherNumber() {
        RangeRules rules = Due.rulesAround(10);
        due.told(rules, 0, 9, 10, 0, 1, 9, 11);
        for (int op : new int[] {-1, 10, 11, 32, 256, 1 << 16, -10, LEAST, LEAST + 3, GREATEST}) {
            due.work(rules, op, 0, 1, 0, 1, -1);
            // Without a result for / and the rest, but not for another number.
            due.work(rules, op, 0, 1, 0, 0, -1);
        }
        due.result("calls that were refused", rules, 9, 11);
        for (int op = 0; op <= 9; op++) {
            due.work(rules, op, 0, 1, 1, 1, 1);
        }
    }

    private static void leftNoRange() {
        RangeRules rules = Due.rulesAround(10);
        due.told(rules, 0, 9, 10, 0, 1, 9, 11);
        for (int op = 0; op <= 9; op++) {
            due.work(rules, op, 1, 0, 1, 1, -1);
            due.work(rules, op, GREATEST, LEAST, 1, 1, -1);
            due.work(rules, op, 8, 10, 1, 1, -1);
            due.work(rules, op, 10, 12, 1, 1, -1);
            due.work(rules, op, 5, 5, 1, 1, -1);
            // Not 0, though the right range is 0 to 0.
            due.work(rules, op, 5, 10, 0, 0, -1);
            due.work(rules, op, 1, 0, 0, 0, -1);
        }
        due.result("calls that were refused", rules, 9, 11);
    }

    private static void rightNoRange() {
        RangeRules rules = Due.rulesAround(10);
        due.told(rules, 0, 9, 10, 0, 1, 9, 11);
        for (int op = 0; op <= 9; op++) {
            due.work(rules, op, 1, 1, 1, 0, -1);
            due.work(rules, op, 1, 1, GREATEST, LEAST, -1);
            due.work(rules, op, 1, 1, -2, 10, -1);
            due.work(rules, op, 1, 1, 1, 5, -1);
            due.work(rules, op, 1, 1, 5, 5, -1);
            due.work(rules, op, 1, 1, 0, -1, -1);
            due.work(rules, op, 0, 5, 0, 5, -1);
        }
        due.result("calls that were refused", rules, 9, 11);
    }
}
