/** Promise 4: size. */
public final class SizeTest {
    public static void main(String[] args) {
        if (new RangeRules().size() != 7) System.exit(1);
    }
}
