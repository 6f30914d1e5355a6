import java.util.NoSuchElementException;

/** Promises 1 to 11: a new object, series and samples. */
public final class SeriesTest {
    private static final Class<IllegalArgumentException> BAD = IllegalArgumentException.class;
    private static final Class<IllegalStateException> STATE = IllegalStateException.class;
    private static final Class<NoSuchElementException> NONE = NoSuchElementException.class;

    public static void main(String[] args) {
        newObject();
        opening();
        openingTooMany();
        passing();
        adding();
        addingTooMany();
        finding();
        asking();
        Expect.end();
    }

    private static void newObject() {
        GaugeHall hall = new GaugeHall();
        Expect.same("new: time", 0, () -> hall.time());
        Expect.same("new: seriesCount", 0, () -> hall.seriesCount());
        Expect.same("new: allBits", 0, () -> hall.allBits());
        Expect.same("new: firing", 0, () -> hall.firing());
        Expect.same("new: isConsistent", true, () -> hall.isConsistent());
        Expect.refused("new: samples(0)", NONE, () -> hall.samples(0));
        GaugeHall other = new GaugeHall();
        other.open(1, 1);
        other.pass(5);
        Expect.same("two objects: seriesCount", 0, () -> hall.seriesCount());
        Expect.same("two objects: time", 0, () -> hall.time());
    }

    private static void opening() {
        GaugeHall hall = new GaugeHall();
        int[][] bad = {{-1, 0}, {10, 0}, {0, -1}, {0, 10}, {Integer.MIN_VALUE, 3}, {3, Integer.MAX_VALUE}};
        for (int[] labels : bad) {
            Expect.refused("open(" + labels[0] + ", " + labels[1] + ")", BAD,
                    () -> hall.open(labels[0], labels[1]));
        }
        Expect.same("seriesCount after refusals", 0, () -> hall.seriesCount());
        Expect.same("open(0, 9)", 0, () -> hall.open(0, 9));
        Expect.same("open(9, 0)", 1, () -> hall.open(9, 0));
        Expect.same("open(9, 9)", 2, () -> hall.open(9, 9));
        Expect.refused("open(0, 9) again", STATE, () -> hall.open(0, 9));
        Expect.refused("open(9, 0) again", STATE, () -> hall.open(9, 0));
        Expect.same("open(0, 0)", 3, () -> hall.open(0, 0));
        Expect.same("seriesCount", 4, () -> hall.seriesCount());
    }

    private static void openingTooMany() {
        GaugeHall hall = new GaugeHall();
        for (int k = 0; k < 10; k++) {
            int host = k;
            Expect.same("open(3, " + k + ")", k, () -> hall.open(3, host));
        }
        Expect.refused("an eleventh series", STATE, () -> hall.open(4, 0));
        Expect.refused("an eleventh series, seen before", STATE, () -> hall.open(3, 0));
        Expect.refused("an eleventh series with a bad label", BAD, () -> hall.open(10, 0));
        Expect.same("seriesCount", 10, () -> hall.seriesCount());
        Expect.refused("samples(10)", NONE, () -> hall.samples(10));
        Expect.same("samples(9)", 0, () -> hall.samples(9));
    }

    private static void passing() {
        GaugeHall hall = new GaugeHall();
        for (int bad : new int[] {0, -1, 601, Integer.MIN_VALUE, Integer.MAX_VALUE}) {
            Expect.refused("pass(" + bad + ")", BAD, () -> hall.pass(bad));
        }
        Expect.same("time after refusals", 0, () -> hall.time());
        Expect.same("pass(1)", 1, () -> hall.pass(1));
        Expect.same("pass(600)", 601, () -> hall.pass(600));
        Expect.same("time", 601, () -> hall.time());
    }

    private static void adding() {
        GaugeHall hall = new GaugeHall();
        Expect.refused("add without series", NONE, () -> hall.add(0, 0));
        Expect.refused("add without series, bad value", NONE, () -> hall.add(0, 10001));
        hall.open(1, 2);
        hall.open(1, 3);
        Expect.refused("add(-1, 0)", NONE, () -> hall.add(-1, 0));
        Expect.refused("add(2, 0)", NONE, () -> hall.add(2, 0));
        Expect.refused("add(0, 10001)", BAD, () -> hall.add(0, 10001));
        Expect.refused("add(0, -10001)", BAD, () -> hall.add(0, -10001));
        Expect.refused("add(0, MIN)", BAD, () -> hall.add(0, Integer.MIN_VALUE));
        Expect.same("samples after refusals", 0, () -> hall.samples(0));
        Expect.same("add(0, 10000)", 1, () -> hall.add(0, 10000));
        Expect.refused("add at the same time", STATE, () -> hall.add(0, 1));
        Expect.refused("add at the same time, bad value", BAD, () -> hall.add(0, 10001));
        Expect.same("add to the other series", 1, () -> hall.add(1, -10000));
        hall.pass(1);
        Expect.same("add a second later", 2, () -> hall.add(0, -7));
        Expect.refused("add at the same later time", STATE, () -> hall.add(0, 8));
        Expect.same("samples(0)", 2, () -> hall.samples(0));
        Expect.same("samples(1)", 1, () -> hall.samples(1));
        Expect.same("latest(0)", -7, () -> hall.latest(0));
        Expect.same("latest(1)", -10000, () -> hall.latest(1));
    }

    private static void addingTooMany() {
        GaugeHall hall = new GaugeHall();
        hall.open(0, 0);
        hall.open(0, 1);
        for (int k = 0; k < 120; k++) {
            int value = k;
            Expect.same("add number " + k, k + 1, () -> hall.add(0, value));
            hall.pass(1);
        }
        Expect.refused("add number 120", STATE, () -> hall.add(0, 5));
        Expect.refused("add number 120, bad value", BAD, () -> hall.add(0, -10001));
        Expect.same("samples", 120, () -> hall.samples(0));
        Expect.same("latest", 119, () -> hall.latest(0));
        Expect.same("add to the other series", 1, () -> hall.add(1, 5));
    }

    private static void finding() {
        GaugeHall hall = new GaugeHall();
        Expect.refused("find without series", NONE, () -> hall.find(0, 0));
        hall.open(4, 7);
        hall.open(7, 4);
        Expect.same("find(4, 7)", 0, () -> hall.find(4, 7));
        Expect.same("find(7, 4)", 1, () -> hall.find(7, 4));
        Expect.refused("find(4, 4)", NONE, () -> hall.find(4, 4));
        Expect.refused("find(7, 7)", NONE, () -> hall.find(7, 7));
        Expect.refused("find(-1, 7)", NONE, () -> hall.find(-1, 7));
        Expect.refused("find(4, 10)", NONE, () -> hall.find(4, 10));
    }

    private static void asking() {
        GaugeHall hall = new GaugeHall();
        hall.open(4, 7);
        hall.open(8, 5);
        Expect.same("nameOf(0)", 4, () -> hall.nameOf(0));
        Expect.same("hostOf(0)", 7, () -> hall.hostOf(0));
        Expect.same("nameOf(1)", 8, () -> hall.nameOf(1));
        Expect.same("hostOf(1)", 5, () -> hall.hostOf(1));
        Expect.refused("latest without samples", STATE, () -> hall.latest(1));
        for (int bad : new int[] {-1, 2, 9, 10, Integer.MIN_VALUE, Integer.MAX_VALUE}) {
            Expect.refused("nameOf(" + bad + ")", NONE, () -> hall.nameOf(bad));
            Expect.refused("hostOf(" + bad + ")", NONE, () -> hall.hostOf(bad));
            Expect.refused("samples(" + bad + ")", NONE, () -> hall.samples(bad));
            Expect.refused("latest(" + bad + ")", NONE, () -> hall.latest(bad));
        }
    }
}
