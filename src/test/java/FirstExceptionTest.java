/** "If several exceptions apply, the one that is documented first is thrown": each pair that can meet. */
public final class FirstExceptionTest {
    private static final int[] NO_SERIES = {-1, 1, 10, Integer.MIN_VALUE, Integer.MAX_VALUE};
    private static final int[] BAD_VALUES = {-10001, 10001, Integer.MIN_VALUE, Integer.MAX_VALUE};
    private static final int[] BAD_PERCENTS = {0, 101, Integer.MIN_VALUE, Integer.MAX_VALUE};
    private static final long[][] BAD_RANGES = {{-1, 0}, {1, 0}, {0, -1}, {Long.MIN_VALUE, Long.MAX_VALUE},
        {Long.MAX_VALUE, Long.MIN_VALUE}};

    private interface Range {
        Object of(GaugeHall hall, int series, long from, long to);
    }

    private interface Numbered {
        Object of(GaugeHall hall, int series, int number);
    }

    public static void main(String[] args) {
        open();
        add();
        numbered(13, "bitsOf", (hall, series, number) -> hall.bitsOf(series, number));
        numbered(14, "timeAt", (hall, series, number) -> hall.timeAt(series, number));
        numbered(15, "valueAt", (hall, series, number) -> hall.valueAt(series, number));
        range(17, "count", (hall, series, from, to) -> hall.count(series, from, to));
        range(18, "sum", (hall, series, from, to) -> hall.sum(series, from, to));
        range(19, "sumByReading", (hall, series, from, to) -> hall.sumByReading(series, from, to));
        range(20, "maximum", (hall, series, from, to) -> hall.maximum(series, from, to));
        range(21, "mean", (hall, series, from, to) -> hall.mean(series, from, to));
        numbered(22, "rollupCount", (hall, series, number) -> hall.rollupCount(series, number));
        range(23, "countLow", (hall, series, from, to) -> hall.countLow(series, from, to));
        range(24, "countHigh", (hall, series, from, to) -> hall.countHigh(series, from, to));
        range(25, "maximumHigh", (hall, series, from, to) -> hall.maximumHigh(series, from, to));
        percent(26, "quantile", (hall, series, number) -> hall.quantile(series, number));
        percent(27, "exactQuantile", (hall, series, number) -> hall.exactQuantile(series, number));
        percent(30, "isWithin", (hall, series, number) -> hall.isWithin(series, number));
        setAlert();
        Expect.end();
    }

    private static GaugeHall oneEmptySeries() {
        GaugeHall hall = new GaugeHall();
        hall.open(3, 4);
        return hall;
    }

    private static void open() {
        Expect.promise(2, "open");
        GaugeHall full = Halls.ofTenSeries();
        for (int bad : new int[] {-1, 10, Integer.MIN_VALUE, Integer.MAX_VALUE}) {
            Expect.refused("the name " + bad + " and 10 series", Expect.BAD, () -> full.open(bad, 0));
            Expect.refused("the host " + bad + " and 10 series", Expect.BAD, () -> full.open(0, bad));
        }
    }

    private static void add() {
        Expect.promise(4, "add");
        GaugeHall empty = new GaugeHall();
        GaugeHall one = oneEmptySeries();
        GaugeHall taken = oneEmptySeries();
        taken.add(0, 1);
        GaugeHall full = Halls.withValues(Halls.upTo(120));
        GaugeHall fullNow = Halls.withValues(Halls.upTo(119));
        fullNow.add(0, 120);
        for (int bad : BAD_VALUES) {
            Expect.refused("no series in an empty store, the value " + bad, Expect.NONE, () -> empty.add(0, bad));
            for (int none : NO_SERIES) {
                Expect.refused("the series " + none + ", the value " + bad, Expect.NONE, () -> one.add(none, bad));
            }
            Expect.refused("the value " + bad + ", a sample at the time", Expect.BAD, () -> taken.add(0, bad));
            Expect.refused("the value " + bad + ", a full series", Expect.BAD, () -> full.add(0, bad));
            Expect.refused("the value " + bad + ", both", Expect.BAD, () -> fullNow.add(0, bad));
        }
    }

    /** A series that there is not, and a number out of range, or as far as a number goes. */
    private static void numbered(int promise, String call, Numbered ask) {
        Expect.promise(promise, call);
        GaugeHall empty = new GaugeHall();
        GaugeHall one = oneEmptySeries();
        for (int bad : new int[] {-1, Integer.MIN_VALUE, Integer.MAX_VALUE}) {
            Expect.refused("no series in an empty store, the number " + bad, Expect.NONE,
                    () -> ask.of(empty, 0, bad));
            for (int none : NO_SERIES) {
                Expect.refused("the series " + none + ", the number " + bad, Expect.NONE,
                        () -> ask.of(one, none, bad));
            }
        }
    }

    private static void range(int promise, String call, Range ask) {
        Expect.promise(promise, call);
        GaugeHall empty = new GaugeHall();
        GaugeHall one = oneEmptySeries();
        for (long[] bad : BAD_RANGES) {
            String told = bad[0] + " to " + bad[1];
            Expect.refused("no series in an empty store, " + told, Expect.NONE,
                    () -> ask.of(empty, 0, bad[0], bad[1]));
            for (int none : NO_SERIES) {
                Expect.refused("the series " + none + ", " + told, Expect.NONE,
                        () -> ask.of(one, none, bad[0], bad[1]));
            }
            Expect.refused("no samples, " + told, Expect.BAD, () -> ask.of(one, 0, bad[0], bad[1]));
        }
        // A series that there is not has no samples either.
        for (int none : NO_SERIES) {
            Expect.refused("the series " + none + ", 0 to 9", Expect.NONE, () -> ask.of(one, none, 0, 9));
        }
    }

    private static void percent(int promise, String call, Numbered ask) {
        Expect.promise(promise, call);
        GaugeHall empty = new GaugeHall();
        GaugeHall one = oneEmptySeries();
        for (int bad : BAD_PERCENTS) {
            Expect.refused("no series in an empty store, " + bad + " percent", Expect.NONE,
                    () -> ask.of(empty, 0, bad));
            for (int none : NO_SERIES) {
                Expect.refused("the series " + none + ", " + bad + " percent", Expect.NONE,
                        () -> ask.of(one, none, bad));
                Expect.refused("the series " + none + ", 50 percent", Expect.NONE, () -> ask.of(one, none, 50));
            }
            Expect.refused("no samples, " + bad + " percent", Expect.BAD, () -> ask.of(one, 0, bad));
        }
    }

    private static void setAlert() {
        Expect.promise(31, "setAlert");
        GaugeHall empty = new GaugeHall();
        GaugeHall one = oneEmptySeries();
        for (int bad : BAD_VALUES) {
            Expect.refused("no series in an empty store, the limit " + bad, Expect.NONE,
                    () -> empty.setAlert(0, bad, 0));
            Expect.refused("no series in an empty store, " + bad + " seconds", Expect.NONE,
                    () -> empty.setAlert(0, 0, bad));
            for (int none : NO_SERIES) {
                Expect.refused("the series " + none + ", the limit " + bad, Expect.NONE,
                        () -> one.setAlert(none, bad, 0));
                Expect.refused("the series " + none + ", " + bad + " seconds", Expect.NONE,
                        () -> one.setAlert(none, 0, bad));
                Expect.refused("the series " + none + ", both", Expect.NONE, () -> one.setAlert(none, bad, bad));
            }
        }
    }
}
