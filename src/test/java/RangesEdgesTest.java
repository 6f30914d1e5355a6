/** The boundary cases of the promises 17 to 25, sentence by sentence. */
public final class RangesEdgesTest {
    private static final long MAX = Long.MAX_VALUE;
    // Times that are small ones again where a long is cut down to an int.
    private static final long WRAP = 1L << 32;

    // Eight samples in the first block, one in the second; two in each of the rollups 0, 1, 4 and 5.
    private static final long[] TIMES = {0, 9, 10, 19, 20, 40, 49, 50, 51};
    private static final int[] VALUES = {4, -3, 8, -6, 2, -10000, 10000, 7, 5};

    private static final String NO_MAXIMUM = "throws.IllegalStateException";
    private static final String NO_MEAN = "throws.ArithmeticException";

    // First time, last time, how many samples, their sum, the greatest value (0 where there are none).
    private static final long[][] RANGES = {
        {0, 0, 1, 4, 4}, {0, 8, 1, 4, 4}, {0, 9, 2, 1, 4}, {1, 8, 0, 0, 0}, {1, 9, 1, -3, -3}, {9, 10, 2, 5, 8},
        {10, 10, 1, 8, 8}, {11, 18, 0, 0, 0}, {11, 19, 1, -6, -6}, {19, 20, 2, -4, 2}, {20, 39, 1, 2, 2},
        {20, 40, 2, -9998, 2}, {21, 39, 0, 0, 0}, {40, 40, 1, -10000, -10000}, {40, 49, 2, 0, 10000},
        {41, 48, 0, 0, 0}, {49, 51, 3, 10012, 10000}, {50, 50, 1, 7, 7}, {50, 51, 2, 12, 7}, {51, 51, 1, 5, 5},
        {52, 52, 0, 0, 0}, {0, 50, 8, 12, 10000}, {0, 51, 9, 17, 10000}, {1, 51, 8, 13, 10000}, {51, MAX, 1, 5, 5},
        {52, MAX, 0, 0, 0}, {0, MAX, 9, 17, 10000}, {0, MAX - 1, 9, 17, 10000}, {MAX, MAX, 0, 0, 0},
        {WRAP, WRAP, 0, 0, 0}, {WRAP, WRAP + 60, 0, 0, 0}, {0, WRAP, 9, 17, 10000}, {0, WRAP + 8, 9, 17, 10000},
        {0, WRAP / 2, 9, 17, 10000}, {0, Integer.MAX_VALUE, 9, 17, 10000}, {WRAP / 2, WRAP, 0, 0, 0},
    };

    // First time, last time, the low count, the high count, the high maximum (0 where there is none).
    private static final long[][] ROLLUPS = {
        {0, 0, 0, 2, 4}, {0, 8, 0, 2, 4}, {0, 9, 2, 2, 4}, {1, 9, 0, 2, 4}, {5, 14, 0, 4, 8}, {0, 10, 2, 4, 8},
        {9, 9, 0, 2, 4}, {9, 10, 0, 4, 8}, {9, 19, 2, 4, 8}, {10, 18, 0, 2, 8}, {10, 19, 2, 2, 8}, {11, 19, 0, 2, 8},
        {0, 18, 2, 4, 8}, {0, 19, 4, 4, 8}, {1, 19, 2, 4, 8}, {20, 20, 0, 1, 2}, {20, 29, 1, 1, 2}, {29, 29, 0, 1, 2},
        {29, 39, 0, 1, 2}, {30, 39, 0, 0, 0}, {30, 40, 0, 2, 10000}, {29, 40, 0, 3, 10000}, {40, 48, 0, 2, 10000},
        {40, 49, 2, 2, 10000}, {41, 49, 0, 2, 10000}, {50, 58, 0, 2, 7}, {50, 59, 2, 2, 7}, {51, 59, 0, 2, 7},
        {59, 59, 0, 2, 7}, {59, 60, 0, 2, 7}, {60, 60, 0, 0, 0}, {0, 58, 7, 9, 10000}, {0, 59, 9, 9, 10000},
        {50, MAX, 2, 2, 7}, {51, MAX, 0, 2, 7}, {59, MAX, 0, 2, 7}, {60, MAX, 0, 0, 0}, {0, MAX, 9, 9, 10000},
        {MAX, MAX, 0, 0, 0}, {MAX - 7, MAX, 0, 0, 0}, {MAX - 8, MAX - 8, 0, 0, 0}, {WRAP, WRAP + 69, 0, 0, 0},
        {WRAP + 9, WRAP + 9, 0, 0, 0}, {0, WRAP, 9, 9, 10000}, {0, WRAP / 2, 9, 9, 10000},
    };

    private static final long[][] WRONG_RANGES = {
        {-1, -1}, {-1, 0}, {-1, 51}, {-1, MAX}, {Long.MIN_VALUE, Long.MIN_VALUE}, {Long.MIN_VALUE, MAX}, {1, 0},
        {52, 51}, {0, -1}, {MAX, MAX - 1}, {MAX, 0}, {MAX, -1}, {MAX, Long.MIN_VALUE}, {-WRAP, WRAP}, {WRAP, 51},
    };

    private interface Ask {
        Object of(GaugeHall hall, int series, long from, long to);
    }

    public static void main(String[] args) {
        count();
        sum();
        sumByReading();
        maximum();
        mean();
        rollupCount();
        rollupTimes();
        countLow();
        countHigh();
        maximumHigh();
        Expect.endOfPromises(17, 25);
    }

    private static void looksAt(String call, long[] range, Object due, Ask ask) {
        GaugeHall hall = Halls.withTimes(TIMES, VALUES);
        Expect.same(call + " of " + range[0] + " to " + range[1], due, () -> ask.of(hall, 0, range[0], range[1]));
    }

    /** What all calls with a range refuse, in an empty store, an empty series and a filled one. */
    private static void refusals(String call, Ask ask) {
        GaugeHall empty = new GaugeHall();
        Expect.refused(call + " in an empty store", Expect.NONE, () -> ask.of(empty, 0, 0, 0));
        GaugeHall hall = Halls.withTimes(TIMES, VALUES);
        hall.open(3, 5);
        for (long[] wrong : WRONG_RANGES) {
            for (int series = 0; series <= 1; series++) {
                int number = series;
                Expect.refused(call + "(" + series + ", " + wrong[0] + ", " + wrong[1] + ")", Expect.BAD,
                        () -> ask.of(hall, number, wrong[0], wrong[1]));
            }
        }
        for (int bad : new int[] {-1, 2, 10, Integer.MIN_VALUE, Integer.MAX_VALUE}) {
            Expect.refused(call + " of the series " + bad, Expect.NONE, () -> ask.of(hall, bad, 0, MAX));
        }
        GaugeHall full = Halls.ofTenSeries();
        Expect.refused(call + " of the series 10", Expect.NONE, () -> ask.of(full, 10, 0, MAX));
        Expect.refused(call + " of the last series, -1 to 0", Expect.BAD, () -> ask.of(full, 9, -1, 0));
    }

    private static GaugeHall emptySeries() {
        GaugeHall hall = Halls.withTimes(TIMES, VALUES);
        hall.open(3, 5);
        return hall;
    }

    private static void ofAnEmptySeries(String call, Object due, Ask ask) {
        for (long[] range : new long[][] {{0, 0}, {0, 51}, {0, MAX}, {MAX, MAX}}) {
            GaugeHall hall = emptySeries();
            Expect.same(call + " of an empty series", due, () -> ask.of(hall, 1, range[0], range[1]));
        }
    }

    private static GaugeHall full(int value) {
        int[] values = new int[120];
        for (int k = 0; k < values.length; k++) {
            values[k] = value;
        }
        return Halls.withValues(values);
    }

    private static void count() {
        Expect.promise(17, "count");
        Ask ask = (hall, series, from, to) -> hall.count(series, from, to);
        refusals("count", ask);
        ofAnEmptySeries("count", 0, ask);
        for (long[] row : RANGES) {
            looksAt("count", row, row[2], ask);
        }
        GaugeHall full = full(1);
        for (int k = 0; k < 120; k++) {
            int index = k;
            Expect.same("one time of a full series", 1, () -> full.count(0, index, index));
        }
        Expect.same("all of a full series", 120, () -> full.count(0, 0, 119));
        Expect.same("all but the first", 119, () -> full.count(0, 1, 119));
        Expect.same("all but the last", 119, () -> full.count(0, 0, 118));
        Expect.same("behind the last", 0, () -> full.count(0, 120, MAX));
        Expect.same("a whole block", 8, () -> full.count(0, 8, 15));
        Expect.same("the ends of two blocks", 2, () -> full.count(0, 15, 16));
    }

    private static void sum() {
        Expect.promise(18, "sum");
        sums("sum", (hall, series, from, to) -> hall.sum(series, from, to));
    }

    private static void sumByReading() {
        Expect.promise(19, "sumByReading");
        sums("sumByReading", (hall, series, from, to) -> hall.sumByReading(series, from, to));
    }

    private static void sums(String call, Ask ask) {
        refusals(call, ask);
        ofAnEmptySeries(call, 0L, ask);
        for (long[] row : RANGES) {
            looksAt(call, row, row[3], ask);
        }
        GaugeHall greatest = full(10000);
        Expect.same("the greatest sum", 1200000L, () -> ask.of(greatest, 0, 0, MAX));
        Expect.same("the greatest sum of 119", 1190000L, () -> ask.of(greatest, 0, 1, 119));
        GaugeHall least = full(-10000);
        Expect.same("the least sum", -1200000L, () -> ask.of(least, 0, 0, 119));
        Expect.same("the sum of a whole block", -80000L, () -> ask.of(least, 0, 112, 119));
    }

    private static void maximum() {
        Expect.promise(20, "maximum");
        Ask ask = (hall, series, from, to) -> hall.maximum(series, from, to);
        refusals("maximum", ask);
        ofAnEmptySeries("maximum", NO_MAXIMUM, ask);
        for (long[] row : RANGES) {
            looksAt("maximum", row, row[2] == 0 ? NO_MAXIMUM : row[4], ask);
        }
        GaugeHall least = full(-10000);
        Expect.same("the least maximum", -10000, () -> least.maximum(0, 0, MAX));
        Expect.same("the least maximum of one block", -10000, () -> least.maximum(0, 16, 23));
        Expect.refused("behind the last sample", Expect.STATE, () -> least.maximum(0, 120, MAX));
        GaugeHall rising = Halls.withValues(Halls.upTo(120));
        Expect.same("the last one is the greatest", 120, () -> rising.maximum(0, 0, 119));
        Expect.same("the last of the range is the greatest", 119, () -> rising.maximum(0, 0, 118));
        GaugeHall falling = Halls.withValues(9, 8, 7, 6, 5, 4, 3, 2, 1, 0, -1);
        Expect.same("the first one is the greatest", 9, () -> falling.maximum(0, 0, 10));
        Expect.same("the first of the range is the greatest", 8, () -> falling.maximum(0, 1, 10));
    }

    private static void mean() {
        Expect.promise(21, "mean");
        Ask ask = (hall, series, from, to) -> hall.mean(series, from, to);
        refusals("mean", ask);
        ofAnEmptySeries("mean", NO_MEAN, ask);
        for (long[] row : RANGES) {
            looksAt("mean", row, row[2] == 0 ? NO_MEAN : (Object) ((double) row[3] / (double) row[2]), ask);
        }
        GaugeHall greatest = full(10000);
        Expect.same("the greatest mean", 10000.0, () -> greatest.mean(0, 0, MAX));
        GaugeHall least = full(-10000);
        Expect.same("the least mean", -10000.0, () -> least.mean(0, 0, MAX));
        GaugeHall thirds = Halls.withValues(1, 0, 0, -1, -1);
        Expect.same("a third", 1.0 / 3.0, () -> thirds.mean(0, 0, 2));
        Expect.same("nothing", 0.0, () -> thirds.mean(0, 1, 2));
        Expect.same("nothing of some", 0.0, () -> thirds.mean(0, 0, 3));
        Expect.same("less than nothing", -0.2, () -> thirds.mean(0, 0, 4));
        Expect.same("a half below nothing", -0.5, () -> thirds.mean(0, 2, 3));
    }

    private static void rollupCount() {
        Expect.promise(22, "rollupCount");
        GaugeHall empty = new GaugeHall();
        Expect.refused("in an empty store", Expect.NONE, () -> empty.rollupCount(0, 0));
        GaugeHall hall = emptySeries();
        int[] due = {2, 2, 1, 0, 2, 2, 0, 0};
        for (int k = 0; k < due.length; k++) {
            int index = k;
            Expect.same("the rollup " + k, due[k], () -> hall.rollupCount(0, index));
            Expect.same("the rollup " + k + " of an empty series", 0, () -> hall.rollupCount(1, index));
        }
        for (int bad : new int[] {-1, -2, -10, Integer.MIN_VALUE, Integer.MIN_VALUE + 1}) {
            Expect.refused("the rollup " + bad, Expect.BAD, () -> hall.rollupCount(0, bad));
            Expect.refused("the rollup " + bad + " of an empty series", Expect.BAD, () -> hall.rollupCount(1, bad));
            Expect.refused("the rollup " + bad + " of no series", Expect.NONE, () -> hall.rollupCount(2, bad));
        }
        // 10 times these is a number from -6 to 44 again, for an int that wraps round.
        for (int far : new int[] {429496729, 429496730, 429496731, 429496732, 429496734, 858993459, 858993460,
            1 << 30, 1 << 29, Integer.MAX_VALUE - 1, Integer.MAX_VALUE}) {
            Expect.same("the rollup " + far, 0, () -> hall.rollupCount(0, far));
        }
        for (int bad : new int[] {-1, 2, 10, Integer.MIN_VALUE, Integer.MAX_VALUE}) {
            Expect.refused("of the series " + bad, Expect.NONE, () -> hall.rollupCount(bad, 0));
        }
    }

    private static void rollupTimes() {
        Expect.promise(22, "rollupCount");
        GaugeHall full = full(3);
        for (int k = 0; k < 12; k++) {
            int index = k;
            Expect.same("a rollup with samples at all of its times", 10, () -> full.rollupCount(0, index));
        }
        Expect.same("the rollup behind the last sample", 0, () -> full.rollupCount(0, 12));
        GaugeHall last = Halls.withTimes(new long[] {59, 299999}, new int[] {1, 1});
        Expect.same("the last time of a rollup", 1, () -> last.rollupCount(0, 5));
        Expect.same("not the one before", 0, () -> last.rollupCount(0, 4));
        Expect.same("not the one behind", 0, () -> last.rollupCount(0, 6));
        Expect.same("the last time of a late rollup", 1, () -> last.rollupCount(0, 29999));
        Expect.same("not the one behind the late one", 0, () -> last.rollupCount(0, 30000));
        GaugeHall first = Halls.withTimes(new long[] {60}, new int[] {1});
        Expect.same("the first time of a rollup", 1, () -> first.rollupCount(0, 6));
        Expect.same("not the one before it", 0, () -> first.rollupCount(0, 5));
    }

    private static void countLow() {
        Expect.promise(23, "countLow");
        Ask ask = (hall, series, from, to) -> hall.countLow(series, from, to);
        refusals("countLow", ask);
        ofAnEmptySeries("countLow", 0, ask);
        for (long[] row : ROLLUPS) {
            looksAt("countLow", row, row[2], ask);
        }
        GaugeHall full = full(3);
        Expect.same("all of a full series", 120, () -> full.countLow(0, 0, 119));
        Expect.same("one second short at the end", 110, () -> full.countLow(0, 0, 118));
        Expect.same("one second short at the start", 110, () -> full.countLow(0, 1, 119));
        Expect.same("9 of 10 times", 0, () -> full.countLow(0, 10, 18));
        Expect.same("10 of 10 times", 10, () -> full.countLow(0, 10, 19));
        Expect.same("10 times of two rollups", 0, () -> full.countLow(0, 11, 20));
    }

    private static void countHigh() {
        Expect.promise(24, "countHigh");
        Ask ask = (hall, series, from, to) -> hall.countHigh(series, from, to);
        refusals("countHigh", ask);
        ofAnEmptySeries("countHigh", 0, ask);
        for (long[] row : ROLLUPS) {
            looksAt("countHigh", row, row[3], ask);
        }
        GaugeHall full = full(3);
        Expect.same("all of a full series", 120, () -> full.countHigh(0, 0, 119));
        Expect.same("from the last time of the first rollup", 120, () -> full.countHigh(0, 9, 110));
        Expect.same("from the first time of the second one", 110, () -> full.countHigh(0, 10, 110));
        Expect.same("to the last time before the last rollup", 110, () -> full.countHigh(0, 9, 109));
        Expect.same("the time behind the last rollup", 0, () -> full.countHigh(0, 120, MAX));
    }

    private static void maximumHigh() {
        Expect.promise(25, "maximumHigh");
        Ask ask = (hall, series, from, to) -> hall.maximumHigh(series, from, to);
        refusals("maximumHigh", ask);
        ofAnEmptySeries("maximumHigh", NO_MAXIMUM, ask);
        for (long[] row : ROLLUPS) {
            looksAt("maximumHigh", row, row[3] == 0 ? NO_MAXIMUM : row[4], ask);
        }
        GaugeHall least = full(-10000);
        Expect.same("the least high maximum", -10000, () -> least.maximumHigh(0, 0, MAX));
        Expect.same("the last time of a rollup", -10000, () -> least.maximumHigh(0, 119, 119));
        Expect.refused("the time behind the last rollup", Expect.STATE, () -> least.maximumHigh(0, 120, 120));
        GaugeHall one = Halls.withTimes(new long[] {25}, new int[] {-10000});
        Expect.same("the first time of its rollup", -10000, () -> one.maximumHigh(0, 20, 20));
        Expect.same("the last time of its rollup", -10000, () -> one.maximumHigh(0, 29, 29));
        Expect.refused("the time before its rollup", Expect.STATE, () -> one.maximumHigh(0, 0, 19));
        Expect.refused("the time behind its rollup", Expect.STATE, () -> one.maximumHigh(0, 30, 30));
    }
}
