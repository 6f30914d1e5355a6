import java.util.ArrayList;
import java.util.List;

/**
 * "A method that throws an exception changes nothing": in halls of many states, each call that is refused
 * there is made, and then the hall answers, and goes on, as one that was never asked.
 */
public final class RefusalTest {
    private static final long MAX = Long.MAX_VALUE;

    private interface Ask {
        Object of(GaugeHall hall);
    }

    private interface Maker {
        GaugeHall made();
    }

    private static final class Refused {
        private final int promise;
        private final String call;
        private final Class<? extends RuntimeException> due;
        private final Ask ask;

        private Refused(int promise, String call, Class<? extends RuntimeException> due, Ask ask) {
            this.promise = promise;
            this.call = call;
            this.due = due;
            this.ask = ask;
        }
    }

    private static final List<Refused> CALLS = new ArrayList<>();

    public static void main(String[] args) {
        in("an empty store", () -> new GaugeHall(), () -> {
            everywhere();
            noSeries(0);
            refused(37, "firingShare()", Expect.ARITHMETIC, hall -> hall.firingShare());
        });
        in("an empty series", () -> Halls.withValues(), () -> {
            inASeries();
            withoutSamples();
            withoutAlert();
            noBlock(0);
            noSample(0);
        });
        in("a sample at the present time", () -> Halls.withTimes(new long[] {0}, new int[] {7}), () -> {
            inASeries();
            refused(4, "add(0, 8), again at the time", Expect.STATE, hall -> hall.add(0, 8));
            withoutAlert();
            noBlock(1);
            noSample(1);
            rangeWithoutSamples(1, 9, 10, 19);
        });
        in("a block short of one sample and an alert that is pending", () -> alerted(7, 600), () -> {
            inASeries();
            noBlock(1);
            noSample(7);
            rangeWithoutSamples(7, 9, 10, 19);
        });
        in("a full block and an alert that is firing", () -> alerted(8, 0), () -> {
            inASeries();
            noBlock(1);
            noSample(8);
            rangeWithoutSamples(8, 9, 10, 19);
        });
        in("16 samples and an alert that is off", () -> off(16), () -> {
            inASeries();
            refused(4, "add(0, 8), again at the time", Expect.STATE, hall -> hall.add(0, 8));
            noBlock(2);
            noSample(16);
        });
        in("an alert that was removed", () -> removed(9), () -> {
            inASeries();
            withoutAlert();
            noBlock(2);
        });
        in("a full series", () -> alerted(120, 300), () -> {
            inASeries();
            refused(4, "add(0, -10000), to a full series", Expect.STATE, hall -> hall.add(0, -10000));
            noBlock(15);
            noSample(120);
            rangeWithoutSamples(120, MAX, 120, MAX);
        });
        in("ten series", () -> tenSeries(), () -> {
            inASeries();
            noSeries(10);
            refused(2, "open(9, 9), an eleventh", Expect.STATE, hall -> hall.open(9, 9));
            refused(2, "open(9, 0), an eleventh that there is", Expect.STATE, hall -> hall.open(9, 0));
            refused(4, "add(0, 8), again at the time", Expect.STATE, hall -> hall.add(0, 8));
            refused(11, "latest(9)", Expect.STATE, hall -> hall.latest(9));
            refused(26, "quantile(9, 50)", Expect.STATE, hall -> hall.quantile(9, 50));
            refused(33, "alertOf(9)", Expect.STATE, hall -> hall.alertOf(9));
            refused(32, "removeAlert(9)", Expect.STATE, hall -> hall.removeAlert(9));
        });
        Expect.end();
    }

    // The halls

    private static GaugeHall alerted(int size, int seconds) {
        GaugeHall hall = Halls.withValues(Halls.upTo(size));
        hall.setAlert(0, 0, seconds);
        return hall;
    }

    private static GaugeHall off(int size) {
        GaugeHall hall = Halls.withValues(Halls.upTo(size - 1));
        hall.setAlert(0, 5, 60);
        hall.add(0, -3);
        return hall;
    }

    private static GaugeHall removed(int size) {
        GaugeHall hall = alerted(size, 1);
        hall.removeAlert(0);
        return hall;
    }

    private static GaugeHall tenSeries() {
        GaugeHall hall = Halls.ofTenSeries();
        for (int series = 0; series < 9; series++) {
            hall.setAlert(series, 10 * series - 20, 7 * series);
        }
        for (int k = 0; k < 17; k++) {
            hall.pass(1 + k % 3);
            for (int series = 0; series < 9; series++) {
                if (k % (series + 1) == 0) {
                    hall.add(series, (k * 37 + series * 11) % 100 - 30);
                }
            }
        }
        return hall;
    }

    // The calls that are refused there

    private static void refused(int promise, String call, Class<? extends RuntimeException> due, Ask ask) {
        CALLS.add(new Refused(promise, call, due, ask));
    }

    private static void everywhere() {
        int[][] badLabels = {{-1, 0}, {10, 0}, {0, -1}, {0, 10}, {Integer.MIN_VALUE, Integer.MAX_VALUE}};
        for (int[] labels : badLabels) {
            refused(2, "open(" + labels[0] + ", " + labels[1] + ")", Expect.BAD,
                    hall -> hall.open(labels[0], labels[1]));
            refused(7, "find(" + labels[0] + ", " + labels[1] + ")", Expect.NONE,
                    hall -> hall.find(labels[0], labels[1]));
            refused(35, "joinCount(" + labels[0] + ", " + labels[1] + ")", Expect.BAD,
                    hall -> hall.joinCount(labels[0], labels[1]));
            refused(36, "joinSum(" + labels[0] + ", " + labels[1] + ")", Expect.BAD,
                    hall -> hall.joinSum(labels[0], labels[1]));
        }
        for (int seconds : new int[] {0, -1, 601, Integer.MIN_VALUE, Integer.MAX_VALUE}) {
            refused(3, "pass(" + seconds + ")", Expect.BAD, hall -> hall.pass(seconds));
        }
        for (int series : new int[] {-1, 10, Integer.MAX_VALUE}) {
            noSeries(series);
        }
    }

    private static void noSeries(int series) {
        String told = "(" + series + ", ..)";
        refused(4, "add" + told, Expect.NONE, hall -> hall.add(series, 5));
        refused(8, "nameOf" + told, Expect.NONE, hall -> hall.nameOf(series));
        refused(9, "hostOf" + told, Expect.NONE, hall -> hall.hostOf(series));
        refused(10, "samples" + told, Expect.NONE, hall -> hall.samples(series));
        refused(11, "latest" + told, Expect.NONE, hall -> hall.latest(series));
        refused(12, "blocks" + told, Expect.NONE, hall -> hall.blocks(series));
        refused(13, "bitsOf" + told, Expect.NONE, hall -> hall.bitsOf(series, 0));
        refused(14, "timeAt" + told, Expect.NONE, hall -> hall.timeAt(series, 0));
        refused(15, "valueAt" + told, Expect.NONE, hall -> hall.valueAt(series, 0));
        ranges(series, 0, 9, Expect.NONE);
        refused(22, "rollupCount" + told, Expect.NONE, hall -> hall.rollupCount(series, 0));
        percents(series, 50, Expect.NONE);
        refused(28, "bound" + told, Expect.NONE, hall -> hall.bound(series));
        refused(29, "held" + told, Expect.NONE, hall -> hall.held(series));
        refused(31, "setAlert" + told, Expect.NONE, hall -> hall.setAlert(series, 0, 0));
        refused(32, "removeAlert" + told, Expect.NONE, hall -> hall.removeAlert(series));
        refused(33, "alertOf" + told, Expect.NONE, hall -> hall.alertOf(series));
    }

    private static void ranges(int series, long from, long to, Class<? extends RuntimeException> due) {
        String told = "(" + series + ", " + from + ", " + to + ")";
        refused(17, "count" + told, due, hall -> hall.count(series, from, to));
        refused(18, "sum" + told, due, hall -> hall.sum(series, from, to));
        refused(19, "sumByReading" + told, due, hall -> hall.sumByReading(series, from, to));
        refused(20, "maximum" + told, due, hall -> hall.maximum(series, from, to));
        refused(21, "mean" + told, due, hall -> hall.mean(series, from, to));
        refused(23, "countLow" + told, due, hall -> hall.countLow(series, from, to));
        refused(24, "countHigh" + told, due, hall -> hall.countHigh(series, from, to));
        refused(25, "maximumHigh" + told, due, hall -> hall.maximumHigh(series, from, to));
    }

    private static void percents(int series, int percent, Class<? extends RuntimeException> due) {
        String told = "(" + series + ", " + percent + ")";
        refused(26, "quantile" + told, due, hall -> hall.quantile(series, percent));
        refused(27, "exactQuantile" + told, due, hall -> hall.exactQuantile(series, percent));
        refused(30, "isWithin" + told, due, hall -> hall.isWithin(series, percent));
    }

    /** What a hall refuses in which the series 0 has the number 0 and there is no series 10. */
    private static void inASeries() {
        everywhere();
        refused(2, "open, the labels of the series 0", Expect.STATE,
                hall -> hall.open(hall.nameOf(0), hall.hostOf(0)));
        for (int value : new int[] {-10001, 10001, Integer.MIN_VALUE, Integer.MAX_VALUE}) {
            refused(4, "add(0, " + value + ")", Expect.BAD, hall -> hall.add(0, value));
            refused(31, "setAlert(0, " + value + ", 0)", Expect.BAD, hall -> hall.setAlert(0, value, 0));
            refused(31, "setAlert(0, 0, " + value + ")", Expect.BAD, hall -> hall.setAlert(0, 0, value));
        }
        refused(31, "setAlert(0, 0, -1)", Expect.BAD, hall -> hall.setAlert(0, 0, -1));
        refused(31, "setAlert(0, 0, 601)", Expect.BAD, hall -> hall.setAlert(0, 0, 601));
        noBlock(-1);
        noSample(-1);
        ranges(0, -1, 9, Expect.BAD);
        ranges(0, 5, 4, Expect.BAD);
        refused(22, "rollupCount(0, -1)", Expect.BAD, hall -> hall.rollupCount(0, -1));
        percents(0, 0, Expect.BAD);
        percents(0, 101, Expect.BAD);
    }

    private static void noBlock(int block) {
        refused(13, "bitsOf(0, " + block + ")", Expect.OUT, hall -> hall.bitsOf(0, block));
    }

    private static void noSample(int index) {
        refused(14, "timeAt(0, " + index + ")", Expect.OUT, hall -> hall.timeAt(0, index));
        refused(15, "valueAt(0, " + index + ")", Expect.OUT, hall -> hall.valueAt(0, index));
    }

    private static void withoutSamples() {
        refused(11, "latest(0)", Expect.STATE, hall -> hall.latest(0));
        rangeWithoutSamples(0, MAX, 0, MAX);
        percents(0, 50, Expect.STATE);
    }

    private static void withoutAlert() {
        refused(32, "removeAlert(0)", Expect.STATE, hall -> hall.removeAlert(0));
        refused(33, "alertOf(0)", Expect.STATE, hall -> hall.alertOf(0));
    }

    private static void rangeWithoutSamples(long from, long to, long highFrom, long highTo) {
        refused(20, "maximum(0, " + from + ", " + to + ")", Expect.STATE, hall -> hall.maximum(0, from, to));
        refused(21, "mean(0, " + from + ", " + to + ")", Expect.ARITHMETIC, hall -> hall.mean(0, from, to));
        refused(25, "maximumHigh(0, " + highFrom + ", " + highTo + ")", Expect.STATE,
                hall -> hall.maximumHigh(0, highFrom, highTo));
    }

    // What they must not change

    private static void in(String state, Maker maker, Runnable collect) {
        CALLS.clear();
        collect.run();
        List<List<Ask>> parts = List.of(answers(), sampleTimes(), sampleValues(), goingOn());
        List<String> untouched = new ArrayList<>();
        for (List<Ask> part : parts) {
            untouched.add(told(maker.made(), part));
        }
        for (Refused refused : CALLS) {
            Expect.promise(refused.promise, refused.call);
            for (int k = 0; k < parts.size(); k++) {
                GaugeHall hall = maker.made();
                List<Ask> part = parts.get(k);
                Expect.refused("in " + state, refused.due, () -> refused.ask.of(hall));
                Expect.same("what follows it in " + state, untouched.get(k), () -> told(hall, part));
            }
        }
    }

    private static String told(GaugeHall hall, List<Ask> part) {
        List<String> told = new ArrayList<>();
        for (Ask ask : part) {
            told.add(Expect.told(() -> ask.of(hall)));
        }
        return told.toString();
    }

    private static List<Ask> answers() {
        List<Ask> asks = new ArrayList<>(List.of(hall -> hall.time(), hall -> hall.seriesCount(),
                hall -> hall.allBits(), hall -> hall.firing(), hall -> hall.firingShare(),
                hall -> hall.joinCount(3, 3), hall -> hall.joinSum(3, 3), hall -> hall.find(3, 4),
                hall -> hall.isConsistent()));
        for (int k = 0; k < 10; k++) {
            int series = k;
            asks.addAll(List.of(hall -> hall.nameOf(series), hall -> hall.hostOf(series),
                    hall -> hall.samples(series), hall -> hall.latest(series), hall -> hall.blocks(series),
                    hall -> hall.bound(series), hall -> hall.held(series), hall -> hall.alertOf(series)));
            asks.addAll(List.of(hall -> hall.quantile(series, 30), hall -> hall.exactQuantile(series, 70),
                    hall -> hall.count(series, 3, 11), hall -> hall.sum(series, 0, MAX),
                    hall -> hall.sumByReading(series, 0, MAX), hall -> hall.maximum(series, 0, MAX),
                    hall -> hall.countLow(series, 5, 25), hall -> hall.countHigh(series, 5, 25),
                    hall -> hall.maximumHigh(series, 5, 5), hall -> hall.bitsOf(series, 0)));
        }
        return asks;
    }

    private static List<Ask> sampleTimes() {
        List<Ask> asks = new ArrayList<>();
        for (int k = 0; k <= 120; k++) {
            int index = k;
            asks.add(hall -> hall.timeAt(0, index));
        }
        for (int k = 0; k <= 15; k++) {
            int block = k;
            asks.add(hall -> hall.bitsOf(0, block));
        }
        return asks;
    }

    private static List<Ask> sampleValues() {
        List<Ask> asks = new ArrayList<>();
        for (int k = 0; k <= 120; k++) {
            int index = k;
            asks.add(hall -> hall.valueAt(0, index));
        }
        return asks;
    }

    /** Calls that change a hall: they show what no single answer tells, such as which half of a level comes next. */
    private static List<Ask> goingOn() {
        List<Ask> asks = new ArrayList<>();
        asks.add(hall -> hall.add(0, -6));
        asks.add(hall -> hall.open(8, 8));
        asks.add(hall -> hall.find(8, 8));
        for (int k = 0; k < 17; k++) {
            int value = 31 - 5 * k;
            int gap = 1 + k % 2;
            asks.add(hall -> hall.pass(gap));
            asks.add(hall -> hall.add(0, value));
            asks.add(hall -> hall.add(1, -value));
            asks.add(hall -> hall.alertOf(0));
            asks.add(hall -> hall.bound(0));
            asks.add(hall -> hall.quantile(0, 50));
            asks.add(hall -> hall.bitsOf(0, hall.blocks(0) - 1));
        }
        for (int percent = 2; percent <= 100; percent += 7) {
            int part = percent;
            asks.add(hall -> hall.quantile(0, part));
            asks.add(hall -> hall.exactQuantile(0, part));
        }
        asks.add(hall -> hall.pass(600));
        asks.add(hall -> hall.firing());
        asks.add(hall -> hall.alertOf(0));
        asks.add(hall -> hall.removeAlert(0));
        asks.add(hall -> hall.allBits());
        asks.add(hall -> hall.isConsistent());
        return asks;
    }
}
