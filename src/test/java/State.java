import java.util.TreeSet;

/** All that an object tells of itself: the thresholds and the result, in at most 190 calls. */
final class State {
    private final TreeSet<Integer> thresholds = new TreeSet<>();
    private final int size;
    private final int low;
    private final int high;

    State(RangeRules rules) {
        size = rules.size();
        low = rules.low();
        high = rules.high();
        // One step more than there can be thresholds, so that a wrong up() does not go on for ever.
        int v = Due.LEAST;
        for (int step = 0; step < 188; step++) {
            int threshold = rules.up(v);
            thresholds.add(threshold);
            if (threshold == Due.GREATEST) {
                break;
            }
            v = threshold + 1;
        }
    }

    State(int low, int high, int... thresholds) {
        for (int threshold : thresholds) {
            this.thresholds.add(threshold);
        }
        size = this.thresholds.size();
        this.low = low;
        this.high = high;
    }

    boolean isAs(State other) {
        return thresholds.equals(other.thresholds) && size == other.size && low == other.low && high == other.high;
    }

    @Override
    public String toString() {
        return size + " thresholds " + thresholds + ", result " + low + " to " + high;
    }
}
