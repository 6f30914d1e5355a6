import java.util.NoSuchElementException;

/** Promises 17 to 25: ranges and rollups. */
public final class RangesTest {
    private static final Class<IllegalArgumentException> BAD = IllegalArgumentException.class;
    private static final Class<IllegalStateException> STATE = IllegalStateException.class;
    private static final Class<NoSuchElementException> NONE = NoSuchElementException.class;

    private static final long[] TIMES = {0, 3, 9, 10, 15, 29, 30, 31, 32, 33, 60};
    private static final int[] VALUES = {5, -2, 7, 100, -50, -9, -8, 4, 0, 10000, -10000};

    public static void main(String[] args) {
        ranges();
        emptyRanges();
        wrongRanges();
        rollups();
        rollupRanges();
        wrongRollups();
        oneAfterAnother();
        Expect.end();
    }

    private static GaugeHall filled() {
        GaugeHall hall = new GaugeHall();
        hall.open(2, 2);
        hall.open(2, 3);
        for (int k = 0; k < TIMES.length; k++) {
            if (TIMES[k] > hall.time()) {
                hall.pass((int) (TIMES[k] - hall.time()));
            }
            hall.add(0, VALUES[k]);
        }
        return hall;
    }

    private static void range(long from, long to, int count, long sum, int maximum) {
        GaugeHall hall = filled();
        String range = "(0, " + from + ", " + to + ")";
        Expect.same("count" + range, count, () -> hall.count(0, from, to));
        Expect.same("sum" + range, sum, () -> hall.sum(0, from, to));
        Expect.same("sumByReading" + range, sum, () -> hall.sumByReading(0, from, to));
        Expect.same("maximum" + range, maximum, () -> hall.maximum(0, from, to));
        Expect.same("mean" + range, (double) sum / count, () -> hall.mean(0, from, to));
    }

    private static void ranges() {
        range(0, 0, 1, 5, 5);
        range(0, 2, 1, 5, 5);
        range(0, 3, 2, 3, 5);
        range(3, 3, 1, -2, -2);
        range(1, 9, 2, 5, 7);
        range(9, 10, 2, 107, 100);
        range(15, 30, 3, -67, -8);
        // From the first block (its samples reach to 31) into the second.
        range(31, 32, 2, 4, 4);
        range(30, 60, 5, -4, 10000);
        range(34, 60, 1, -10000, -10000);
        range(0, 60, 11, 47, 10000);
        range(0, Long.MAX_VALUE, 11, 47, 10000);
        range(60, Long.MAX_VALUE, 1, -10000, -10000);
    }

    private static void emptyRanges() {
        GaugeHall hall = filled();
        long[][] empty = {{1, 2}, {11, 14}, {34, 59}, {61, 61}, {61, Long.MAX_VALUE},
            {Long.MAX_VALUE, Long.MAX_VALUE}};
        for (long[] range : empty) {
            String told = " of " + range[0] + " to " + range[1];
            Expect.same("count" + told, 0, () -> hall.count(0, range[0], range[1]));
            Expect.same("sum" + told, 0, () -> hall.sum(0, range[0], range[1]));
            Expect.same("sumByReading" + told, 0, () -> hall.sumByReading(0, range[0], range[1]));
            Expect.refused("maximum" + told, STATE, () -> hall.maximum(0, range[0], range[1]));
            Expect.refused("mean" + told, ArithmeticException.class, () -> hall.mean(0, range[0], range[1]));
        }
        Expect.same("count without samples", 0, () -> hall.count(1, 0, 100));
        Expect.same("sum without samples", 0, () -> hall.sum(1, 0, 100));
        Expect.same("sumByReading without samples", 0, () -> hall.sumByReading(1, 0, 100));
        Expect.refused("maximum without samples", STATE, () -> hall.maximum(1, 0, 100));
        Expect.refused("mean without samples", ArithmeticException.class, () -> hall.mean(1, 0, 100));
    }

    private static void wrongRanges() {
        GaugeHall hall = filled();
        long[][] wrong = {{-1, 5}, {5, 4}, {-2, -1}, {Long.MIN_VALUE, Long.MAX_VALUE},
            {Long.MAX_VALUE, 0}, {61, 60}};
        for (long[] range : wrong) {
            refusedByAll(hall, 0, BAD, range[0], range[1]);
            refusedByAll(hall, 1, BAD, range[0], range[1]);
            refusedByAll(hall, 2, NONE, range[0], range[1]);
            refusedByAll(hall, -1, NONE, range[0], range[1]);
        }
        refusedByAll(hall, 10, NONE, 0, 5);
        refusedByAll(hall, Integer.MIN_VALUE, NONE, 0, 5);
    }

    private static void refusedByAll(
            GaugeHall hall, int series, Class<? extends RuntimeException> due, long from, long to) {
        String told = "(" + series + ", " + from + ", " + to + ")";
        Expect.refused("count" + told, due, () -> hall.count(series, from, to));
        Expect.refused("sum" + told, due, () -> hall.sum(series, from, to));
        Expect.refused("sumByReading" + told, due, () -> hall.sumByReading(series, from, to));
        Expect.refused("maximum" + told, due, () -> hall.maximum(series, from, to));
        Expect.refused("mean" + told, due, () -> hall.mean(series, from, to));
        Expect.refused("countLow" + told, due, () -> hall.countLow(series, from, to));
        Expect.refused("countHigh" + told, due, () -> hall.countHigh(series, from, to));
        Expect.refused("maximumHigh" + told, due, () -> hall.maximumHigh(series, from, to));
    }

    private static void rollups() {
        GaugeHall hall = filled();
        int[] due = {3, 2, 1, 4, 0, 0, 1, 0};
        for (int k = 0; k < due.length; k++) {
            int index = k;
            Expect.same("rollupCount(0, " + k + ")", due[k], () -> hall.rollupCount(0, index));
        }
        Expect.same("rollupCount(0, MAX)", 0, () -> hall.rollupCount(0, Integer.MAX_VALUE));
        // 10 times this index is 0 for an int that wraps round.
        Expect.same("rollupCount(0, 1 << 30)", 0, () -> hall.rollupCount(0, 1 << 30));
        Expect.same("rollupCount(1, 0)", 0, () -> hall.rollupCount(1, 0));
        Expect.refused("rollupCount(0, -1)", BAD, () -> hall.rollupCount(0, -1));
        Expect.refused("rollupCount(0, MIN)", BAD, () -> hall.rollupCount(0, Integer.MIN_VALUE));
        Expect.refused("rollupCount(2, -1)", NONE, () -> hall.rollupCount(2, -1));
    }

    private static void rollupRange(long from, long to, int low, int high, Object maximum) {
        GaugeHall hall = filled();
        String range = "(0, " + from + ", " + to + ")";
        Expect.same("countLow" + range, low, () -> hall.countLow(0, from, to));
        Expect.same("countHigh" + range, high, () -> hall.countHigh(0, from, to));
        Expect.same("maximumHigh" + range, maximum, () -> hall.maximumHigh(0, from, to));
    }

    private static void rollupRanges() {
        rollupRange(0, 9, 3, 3, 7);
        rollupRange(0, 8, 0, 3, 7);
        rollupRange(1, 9, 0, 3, 7);
        rollupRange(0, 10, 3, 5, 100);
        rollupRange(9, 10, 0, 5, 100);
        rollupRange(10, 29, 3, 3, 100);
        rollupRange(11, 29, 1, 3, 100);
        rollupRange(20, 29, 1, 1, -9);
        rollupRange(4, 4, 0, 3, 7);
        rollupRange(39, 60, 0, 5, 10000);
        rollupRange(40, 60, 0, 1, -10000);
        rollupRange(40, 69, 1, 1, -10000);
        rollupRange(0, Long.MAX_VALUE, 11, 11, 10000);
        rollupRange(69, Long.MAX_VALUE, 0, 1, -10000);
        rollupRange(40, 59, 0, 0, "throws.IllegalStateException");
        rollupRange(70, Long.MAX_VALUE, 0, 0, "throws.IllegalStateException");
        rollupRange(Long.MAX_VALUE, Long.MAX_VALUE, 0, 0, "throws.IllegalStateException");
    }

    private static void wrongRollups() {
        GaugeHall hall = filled();
        Expect.same("countLow without samples", 0, () -> hall.countLow(1, 0, 100));
        Expect.same("countHigh without samples", 0, () -> hall.countHigh(1, 0, 100));
        Expect.refused("maximumHigh without samples", STATE, () -> hall.maximumHigh(1, 0, 100));
    }

    /** No answer may lean on what the call before has found. */
    private static void oneAfterAnother() {
        GaugeHall hall = filled();
        for (int round = 0; round < 2; round++) {
            Expect.same("sumByReading after others", 48, () -> hall.sumByReading(0, 9, 29));
            Expect.same("count after others", 2, () -> hall.count(0, 31, 32));
            Expect.same("sumByReading after others", 55, () -> hall.sumByReading(0, 3, 15));
            Expect.same("countLow after others", 3, () -> hall.countLow(0, 0, 9));
            Expect.same("sum after others", 100, () -> hall.sum(0, 10, 10));
            Expect.same("countHigh after others", 1, () -> hall.countHigh(0, 69, 69));
            Expect.same("countLow after others", 2, () -> hall.countLow(0, 10, 19));
            Expect.same("maximum after others", -9, () -> hall.maximum(0, 29, 29));
            Expect.same("rollupCount after others", 4, () -> hall.rollupCount(0, 3));
            Expect.same("maximumHigh after others", -9, () -> hall.maximumHigh(0, 20, 29));
            Expect.same("mean after others", -8.5, () -> hall.mean(0, 29, 30));
        }
    }
}
