/** The boundary cases of the promises 1 to 11, sentence by sentence. */
public final class SeriesEdgesTest {
    public static void main(String[] args) {
        newObject();
        openLabels();
        openTheSameLabels();
        openTenSeries();
        passSeconds();
        passForLong();
        addValues();
        addToNoSeries();
        addAtTheSameTime();
        addToAFullSeries();
        time();
        seriesCount();
        find();
        nameOf();
        hostOf();
        samples();
        latest();
        Expect.endOfPromises(1, 11);
    }

    private static void newObject() {
        Expect.promise(1, "GaugeHall()");
        GaugeHall hall = new GaugeHall();
        Expect.same("at time 0", 0L, () -> hall.time());
        Expect.same("without series", 0, () -> hall.seriesCount());
        Expect.refused("no series 0", Expect.NONE, () -> hall.samples(0));
        Expect.refused("no series with the least labels", Expect.NONE, () -> hall.find(0, 0));
        Expect.same("no bits", 0L, () -> hall.allBits());
        Expect.same("no alert fires", 0, () -> hall.firing());
        Expect.refused("no share", Expect.ARITHMETIC, () -> hall.firingShare());
        Expect.same("no pairs", 0, () -> hall.joinCount(0, 0));
        Expect.same("consistent", true, () -> hall.isConsistent());
        Expect.same("the first series has the number 0", 0, () -> hall.open(0, 0));
        Expect.same("the first sample is taken at time 0", 1, () -> hall.add(0, 0));
        Expect.same("its time is 0", 0L, () -> hall.timeAt(0, 0));
    }

    private static void openLabels() {
        Expect.promise(2, "open");
        for (int name = 0; name <= 9; name++) {
            GaugeHall hall = new GaugeHall();
            for (int host = 0; host <= 9; host++) {
                int[] labels = {name, host};
                Expect.same("the labels " + name + ", " + host + " are taken", host,
                        () -> hall.open(labels[0], labels[1]));
            }
        }
        GaugeHall hall = new GaugeHall();
        int[] outside = {-1, 10, -10, 100, Integer.MIN_VALUE, Integer.MAX_VALUE};
        for (int bad : outside) {
            for (int good : new int[] {0, 5, 9}) {
                Expect.refused("the name " + bad, Expect.BAD, () -> hall.open(bad, good));
                Expect.refused("the host " + bad, Expect.BAD, () -> hall.open(good, bad));
            }
            for (int other : outside) {
                Expect.refused("the labels " + bad + ", " + other, Expect.BAD, () -> hall.open(bad, other));
            }
        }
        Expect.same("nothing was opened", 0, () -> hall.seriesCount());
        Expect.same("the numbers begin with 0 after refusals", 0, () -> hall.open(0, 0));
    }

    private static void openTheSameLabels() {
        Expect.promise(2, "open");
        GaugeHall hall = new GaugeHall();
        hall.open(0, 0);
        hall.open(0, 9);
        hall.open(9, 0);
        hall.open(9, 9);
        for (int[] labels : new int[][] {{0, 0}, {0, 9}, {9, 0}, {9, 9}}) {
            Expect.refused("the labels " + labels[0] + ", " + labels[1] + " again", Expect.STATE,
                    () -> hall.open(labels[0], labels[1]));
        }
        Expect.same("nothing was opened", 4, () -> hall.seriesCount());
        Expect.same("the same name with another host is taken", 4, () -> hall.open(0, 1));
        Expect.same("the same host with another name is taken", 5, () -> hall.open(1, 0));
        Expect.refused("the newest labels again", Expect.STATE, () -> hall.open(1, 0));
        Expect.same("the number after refusals", 6, () -> hall.open(1, 1));
    }

    private static void openTenSeries() {
        Expect.promise(2, "open");
        GaugeHall hall = new GaugeHall();
        for (int k = 0; k < 9; k++) {
            hall.open(k, 9 - k);
        }
        Expect.same("the tenth series is taken", 9, () -> hall.open(9, 0));
        Expect.refused("an eleventh series", Expect.STATE, () -> hall.open(0, 0));
        Expect.refused("an eleventh series with labels that there are", Expect.STATE, () -> hall.open(9, 0));
        Expect.same("there are 10 series", 10, () -> hall.seriesCount());
        Expect.refused("the eleventh can't be found", Expect.NONE, () -> hall.find(0, 0));
        Expect.refused("there is no series 10", Expect.NONE, () -> hall.samples(10));
        Expect.same("the first one is as it was", 0, () -> hall.nameOf(0));
        Expect.same("the tenth one is as it was", 9, () -> hall.nameOf(9));
    }

    private static void passSeconds() {
        Expect.promise(3, "pass");
        GaugeHall hall = new GaugeHall();
        for (int bad : new int[] {0, -1, 601, -600, Integer.MIN_VALUE, Integer.MAX_VALUE}) {
            Expect.refused(bad + " seconds", Expect.BAD, () -> hall.pass(bad));
        }
        Expect.same("no time has passed", 0L, () -> hall.time());
        Expect.same("1 second", 1L, () -> hall.pass(1));
        Expect.same("600 seconds", 601L, () -> hall.pass(600));
        Expect.same("2 seconds", 603L, () -> hall.pass(2));
        Expect.same("599 seconds", 1202L, () -> hall.pass(599));
        Expect.refused("0 seconds, later", Expect.BAD, () -> hall.pass(0));
        Expect.refused("601 seconds, later", Expect.BAD, () -> hall.pass(601));
        Expect.same("the time after refusals", 1202L, () -> hall.time());
        Expect.same("1 second after refusals", 1203L, () -> hall.pass(1));
    }

    private static void passForLong() {
        Expect.promise(3, "pass");
        GaugeHall hall = new GaugeHall();
        for (int k = 1; k <= 511; k++) {
            Expect.same("600 seconds for time number " + k, 600L * k, () -> hall.pass(600));
        }
        Expect.same("the time after 511 calls", 306600L, () -> hall.time());
    }

    private static void addValues() {
        Expect.promise(4, "add");
        GaugeHall hall = new GaugeHall();
        hall.open(0, 0);
        for (int bad : new int[] {-10001, 10001, -20000, 20000, Integer.MIN_VALUE, Integer.MAX_VALUE}) {
            Expect.refused("the value " + bad, Expect.BAD, () -> hall.add(0, bad));
        }
        Expect.same("no sample was added", 0, () -> hall.samples(0));
        int[] good = {-10000, 10000, -9999, 9999, -1, 0, 1};
        for (int k = 0; k < good.length; k++) {
            int index = k;
            Expect.same("the value " + good[k], k + 1, () -> hall.add(0, good[index]));
            Expect.same("the value read", good[k], () -> hall.valueAt(0, index));
            hall.pass(1);
        }
    }

    private static void addToNoSeries() {
        Expect.promise(4, "add");
        GaugeHall empty = new GaugeHall();
        for (int bad : new int[] {0, 1, -1, 9, 10, Integer.MIN_VALUE, Integer.MAX_VALUE}) {
            Expect.refused("the series " + bad + " of an empty store", Expect.NONE, () -> empty.add(bad, 0));
        }
        GaugeHall full = Halls.ofTenSeries();
        for (int bad : new int[] {-1, 10, 11, -10, Integer.MIN_VALUE, Integer.MAX_VALUE}) {
            Expect.refused("the series " + bad + " of a full store", Expect.NONE, () -> full.add(bad, 0));
        }
        for (int k = 0; k < 10; k++) {
            int number = k;
            Expect.same("the series " + k + " has no sample yet", 0, () -> full.samples(number));
            Expect.same("the series " + k + " takes a sample", 1, () -> full.add(number, number));
        }
    }

    private static void addAtTheSameTime() {
        Expect.promise(4, "add");
        GaugeHall hall = new GaugeHall();
        hall.open(0, 0);
        hall.open(0, 1);
        Expect.same("the first one at time 0", 1, () -> hall.add(0, 5));
        Expect.refused("a second one at time 0", Expect.STATE, () -> hall.add(0, 6));
        Expect.refused("the same value at time 0", Expect.STATE, () -> hall.add(0, 5));
        Expect.same("one of another series at time 0", 1, () -> hall.add(1, 7));
        Expect.refused("a second one of the other series", Expect.STATE, () -> hall.add(1, 7));
        Expect.same("the value stays", 5, () -> hall.latest(0));
        Expect.same("the number stays", 1, () -> hall.samples(0));
        hall.pass(1);
        Expect.same("a second later", 2, () -> hall.add(0, 6));
        Expect.refused("again at that time", Expect.STATE, () -> hall.add(0, 8));
        hall.pass(600);
        Expect.same("600 seconds later", 3, () -> hall.add(0, 8));
        Expect.refused("again at that time", Expect.STATE, () -> hall.add(0, 9));
        Expect.same("the other series at that time", 2, () -> hall.add(1, 9));
        Expect.same("the times", 601L, () -> hall.timeAt(0, 2));
    }

    private static void addToAFullSeries() {
        Expect.promise(4, "add");
        GaugeHall hall = Halls.withValues(Halls.upTo(118));
        hall.open(0, 0);
        Expect.same("number 119", 119, () -> hall.add(0, 119));
        hall.pass(1);
        Expect.same("number 120", 120, () -> hall.add(0, 120));
        Expect.refused("number 121 at the same time", Expect.STATE, () -> hall.add(0, 121));
        hall.pass(1);
        Expect.refused("number 121 at a time of its own", Expect.STATE, () -> hall.add(0, 121));
        hall.pass(600);
        Expect.refused("number 121 long after", Expect.STATE, () -> hall.add(0, -10000));
        Expect.same("there are 120", 120, () -> hall.samples(0));
        Expect.same("the latest stays", 120, () -> hall.latest(0));
        Expect.same("the blocks stay", 15, () -> hall.blocks(0));
        Expect.same("the sketch stays", 16, () -> hall.held(0));
        Expect.same("another series takes samples", 1, () -> hall.add(1, 1));
    }

    private static void time() {
        Expect.promise(5, "time");
        GaugeHall hall = new GaugeHall();
        Expect.same("at first", 0L, () -> hall.time());
        Expect.same("asking takes no time", 0L, () -> hall.time());
        hall.open(0, 0);
        hall.add(0, 1);
        Expect.same("opening and adding take no time", 0L, () -> hall.time());
        hall.pass(1);
        Expect.same("after a second", 1L, () -> hall.time());
        Expect.refused("pass(601)", Expect.BAD, () -> hall.pass(601));
        Expect.same("after a refusal", 1L, () -> hall.time());
    }

    private static void seriesCount() {
        Expect.promise(6, "seriesCount");
        GaugeHall hall = new GaugeHall();
        Expect.same("of an empty store", 0, () -> hall.seriesCount());
        for (int k = 0; k < 10; k++) {
            hall.open(9, k);
            int due = k + 1;
            Expect.same("after opening", due, () -> hall.seriesCount());
            Expect.refused("open again", Expect.STATE, () -> hall.open(9, 0));
            Expect.same("after a refusal", due, () -> hall.seriesCount());
        }
        Expect.refused("open an eleventh", Expect.STATE, () -> hall.open(0, 0));
        Expect.same("of a full store", 10, () -> hall.seriesCount());
    }

    private static void find() {
        Expect.promise(7, "find");
        GaugeHall hall = new GaugeHall();
        Expect.refused("in an empty store", Expect.NONE, () -> hall.find(0, 0));
        hall.open(1, 0);
        hall.open(0, 0);
        hall.open(9, 9);
        hall.open(0, 9);
        Expect.same("the first one opened", 0, () -> hall.find(1, 0));
        Expect.same("the least labels", 1, () -> hall.find(0, 0));
        Expect.same("the greatest labels", 2, () -> hall.find(9, 9));
        Expect.same("the last one opened", 3, () -> hall.find(0, 9));
        Expect.refused("labels the other way round", Expect.NONE, () -> hall.find(9, 0));
        // 10 times the name and the host would be those of another series.
        int[][] none = {{0, 10}, {2, -10}, {1, -1}, {-1, 10}, {-1, 19}, {8, 19}, {10, -1}, {1, -10}, {9, 10},
            {10, 9}, {-1, 0}, {0, -1}, {10, 0}};
        for (int[] labels : none) {
            Expect.refused("the labels " + labels[0] + ", " + labels[1], Expect.NONE,
                    () -> hall.find(labels[0], labels[1]));
        }
        for (int bad : Expect.FAR_OFF) {
            Expect.refused("the name " + bad, Expect.NONE, () -> hall.find(bad, 0));
            Expect.refused("the host " + bad, Expect.NONE, () -> hall.find(0, bad));
        }
        GaugeHall full = Halls.ofTenSeries();
        for (int k = 0; k < 10; k++) {
            int number = k;
            Expect.same("in a full store", number, () -> full.find(number, 9 - number));
        }
        Expect.refused("none in a full store", Expect.NONE, () -> full.find(0, 0));
    }

    private static void refusedOutside(String call, AskOfSeries ask) {
        GaugeHall empty = new GaugeHall();
        Expect.refused(call + "(0) of an empty store", Expect.NONE, () -> ask.of(empty, 0));
        Expect.refused(call + "(-1) of an empty store", Expect.NONE, () -> ask.of(empty, -1));
        GaugeHall one = Halls.withValues(7);
        Expect.refused(call + "(1) with one series", Expect.NONE, () -> ask.of(one, 1));
        Expect.refused(call + "(-1) with one series", Expect.NONE, () -> ask.of(one, -1));
        GaugeHall full = Halls.ofTenSeries();
        Expect.refused(call + "(10) of a full store", Expect.NONE, () -> ask.of(full, 10));
        Expect.refused(call + "(-1) of a full store", Expect.NONE, () -> ask.of(full, -1));
        for (int bad : Expect.FAR_OFF) {
            Expect.refused(call + "(" + bad + ") of a full store", Expect.NONE, () -> ask.of(full, bad));
        }
    }

    private interface AskOfSeries {
        Object of(GaugeHall hall, int series);
    }

    private static void nameOf() {
        Expect.promise(8, "nameOf");
        refusedOutside("nameOf", (hall, series) -> hall.nameOf(series));
        GaugeHall full = Halls.ofTenSeries();
        for (int k = 0; k < 10; k++) {
            int number = k;
            Expect.same("of the series " + k, k, () -> full.nameOf(number));
        }
    }

    private static void hostOf() {
        Expect.promise(9, "hostOf");
        refusedOutside("hostOf", (hall, series) -> hall.hostOf(series));
        GaugeHall full = Halls.ofTenSeries();
        for (int k = 0; k < 10; k++) {
            int number = k;
            Expect.same("of the series " + k, 9 - k, () -> full.hostOf(number));
        }
    }

    private static void samples() {
        Expect.promise(10, "samples");
        refusedOutside("samples", (hall, series) -> hall.samples(series));
        GaugeHall hall = new GaugeHall();
        hall.open(0, 0);
        Expect.same("of an empty series", 0, () -> hall.samples(0));
        for (int k = 1; k <= 120; k++) {
            int due = k;
            hall.add(0, k);
            Expect.same("after adding", due, () -> hall.samples(0));
            hall.pass(1);
        }
        Expect.refused("add to the full series", Expect.STATE, () -> hall.add(0, 1));
        Expect.same("of a full series", 120, () -> hall.samples(0));
    }

    private static void latest() {
        Expect.promise(11, "latest");
        refusedOutside("latest", (hall, series) -> hall.latest(series));
        GaugeHall hall = Halls.ofTenSeries();
        Expect.refused("of an empty series", Expect.STATE, () -> hall.latest(0));
        Expect.refused("of the last empty series", Expect.STATE, () -> hall.latest(9));
        hall.add(0, 10000);
        Expect.same("the greatest value", 10000, () -> hall.latest(0));
        Expect.refused("of the next series, still empty", Expect.STATE, () -> hall.latest(1));
        hall.pass(1);
        hall.add(0, -10000);
        Expect.same("the least value", -10000, () -> hall.latest(0));
        Expect.refused("add at the same time", Expect.STATE, () -> hall.add(0, 3));
        Expect.refused("add a value out of range", Expect.BAD, () -> hall.add(0, 10001));
        Expect.same("after refusals", -10000, () -> hall.latest(0));
        GaugeHall full = Halls.withValues(Halls.upTo(120));
        Expect.same("of a full series", 120, () -> full.latest(0));
        GaugeHall block = Halls.withValues(Halls.upTo(8));
        Expect.same("of a full block", 8, () -> block.latest(0));
        block.add(0, 9);
        Expect.same("of a new block", 9, () -> block.latest(0));
    }
}
