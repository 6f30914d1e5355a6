import java.util.Random;

/** Long runs of calls, the same ones each time, whose every answer is compared with the Model's. */
public final class ModelTest {
    private static final int CALLS = 512;
    private static final int RUNS = 600;

    private final Random dice;
    private final GaugeHall hall = new GaugeHall();
    private final Model model = new Model();
    private final int label;
    private final int spread;
    private final int rush;
    private final int run;

    private ModelTest(int run) {
        this.run = run;
        dice = new Random(run);
        label = 1 + dice.nextInt(10);
        spread = new int[] {1, 3, 33, 100, 10000}[dice.nextInt(5)];
        rush = new int[] {1, 3, 20, 600}[dice.nextInt(4)];
    }

    public static void main(String[] args) {
        for (int run = 0; run < RUNS; run++) {
            new ModelTest(run).go();
        }
        Expect.end();
    }

    private void go() {
        int growing = 40 + dice.nextInt(60);
        for (int k = 0; k < CALLS; k++) {
            if (dice.nextInt(100) < growing) {
                grow();
            } else {
                ask();
            }
        }
    }

    private void compare(String call, Expect.Call due, Expect.Call made) {
        Expect.same("run " + run + ": " + call, Expect.told(due), made);
    }

    private int series() {
        return dice.nextInt(30) == 0 ? dice.nextInt(16) - 3 : dice.nextInt(Math.max(1, model.seriesCount()));
    }

    private int value() {
        return dice.nextInt(30) == 0 ? 10001 - dice.nextInt(3) * 10001 : dice.nextInt(2 * spread + 1) - spread;
    }

    private int anyLabel() {
        return dice.nextInt(30) == 0 ? dice.nextInt(14) - 2 : dice.nextInt(label);
    }

    private long moment() {
        switch (dice.nextInt(20)) {
            case 0: return Long.MAX_VALUE;
            case 1: return -1;
            case 2: return 0;
            case 3: return model.time();
            default: return dice.nextInt((int) model.time() + 30);
        }
    }

    private void grow() {
        int a = series();
        int b = value();
        int kind = dice.nextInt(100);
        if (kind < 5) {
            int name = anyLabel();
            int host = anyLabel();
            compare("open", () -> model.open(name, host), () -> hall.open(name, host));
        } else if (kind < 50) {
            int seconds = dice.nextInt(40) == 0 ? dice.nextInt(620) - 10 : 1 + dice.nextInt(rush);
            compare("pass", () -> model.pass(seconds), () -> hall.pass(seconds));
        } else if (kind < 94) {
            // Most samples come to one series, so that it fills up.
            int to = dice.nextInt(3) == 0 ? a : 0;
            compare("add", () -> model.add(to, b), () -> hall.add(to, b));
        } else if (kind < 99) {
            int seconds = dice.nextInt(10) == 0 ? dice.nextInt(604) - 1 : dice.nextInt(3 * rush);
            compare("setAlert", () -> model.setAlert(a, b / 2, seconds), () -> hall.setAlert(a, b / 2, seconds));
        } else {
            compare("removeAlert", () -> model.removeAlert(a), () -> hall.removeAlert(a));
        }
    }

    private void ask() {
        int a = series();
        switch (dice.nextInt(5)) {
            case 0: askAboutSeries(a); break;
            case 1: askAboutBlocks(a); break;
            case 2: askAboutRanges(a, moment(), moment()); break;
            case 3: askAboutQuantiles(a, dice.nextInt(103)); break;
            default: askAboutAlertsAndJoins(a); break;
        }
    }

    private void askAboutSeries(int a) {
        int one = anyLabel();
        int other = anyLabel();
        switch (dice.nextInt(7)) {
            case 0: compare("time", () -> model.time(), () -> hall.time()); break;
            case 1: compare("seriesCount", () -> model.seriesCount(), () -> hall.seriesCount()); break;
            case 2: compare("find", () -> model.find(one, other), () -> hall.find(one, other)); break;
            case 3: compare("nameOf", () -> model.nameOf(a), () -> hall.nameOf(a)); break;
            case 4: compare("hostOf", () -> model.hostOf(a), () -> hall.hostOf(a)); break;
            case 5: compare("samples", () -> model.samples(a), () -> hall.samples(a)); break;
            default: compare("latest", () -> model.latest(a), () -> hall.latest(a)); break;
        }
    }

    private void askAboutBlocks(int a) {
        int block = dice.nextInt(18) - 1;
        int index = dice.nextInt(124) - 2;
        switch (dice.nextInt(5)) {
            case 0: compare("blocks", () -> model.blocks(a), () -> hall.blocks(a)); break;
            case 1: compare("bitsOf", () -> model.bitsOf(a, block), () -> hall.bitsOf(a, block)); break;
            case 2: compare("timeAt", () -> model.timeAt(a, index), () -> hall.timeAt(a, index)); break;
            case 3: compare("valueAt", () -> model.valueAt(a, index), () -> hall.valueAt(a, index)); break;
            default: compare("allBits", () -> model.allBits(), () -> hall.allBits()); break;
        }
    }

    private void askAboutRanges(int a, long one, long other) {
        boolean inOrder = dice.nextInt(20) > 0;
        long from = inOrder ? Math.min(one, other) : one;
        long to = inOrder ? Math.max(one, other) : other;
        int index = (int) Math.min(Integer.MAX_VALUE, one / 10);
        switch (dice.nextInt(9)) {
            case 0: compare("count", () -> model.count(a, from, to), () -> hall.count(a, from, to)); break;
            case 1: compare("sum", () -> model.sum(a, from, to), () -> hall.sum(a, from, to)); break;
            case 2:
                compare("sumByReading", () -> model.sum(a, from, to), () -> hall.sumByReading(a, from, to));
                break;
            case 3: compare("maximum", () -> model.maximum(a, from, to), () -> hall.maximum(a, from, to)); break;
            case 4: compare("mean", () -> model.mean(a, from, to), () -> hall.mean(a, from, to)); break;
            case 5: compare("rollupCount", () -> model.rollupCount(a, index), () -> hall.rollupCount(a, index)); break;
            case 6: compare("countLow", () -> model.countLow(a, from, to), () -> hall.countLow(a, from, to)); break;
            case 7: compare("countHigh", () -> model.countHigh(a, from, to), () -> hall.countHigh(a, from, to)); break;
            default:
                compare("maximumHigh", () -> model.maximumHigh(a, from, to), () -> hall.maximumHigh(a, from, to));
                break;
        }
    }

    private void askAboutQuantiles(int a, int percent) {
        switch (dice.nextInt(5)) {
            case 0: compare("quantile", () -> model.quantile(a, percent), () -> hall.quantile(a, percent)); break;
            case 1:
                compare("exactQuantile", () -> model.exactQuantile(a, percent), () -> hall.exactQuantile(a, percent));
                break;
            case 2: compare("bound", () -> model.bound(a), () -> hall.bound(a)); break;
            case 3: compare("held", () -> model.held(a), () -> hall.held(a)); break;
            default: compare("isWithin", () -> model.isWithin(a, percent), () -> hall.isWithin(a, percent)); break;
        }
    }

    private void askAboutAlertsAndJoins(int a) {
        int one = anyLabel();
        int other = anyLabel();
        switch (dice.nextInt(6)) {
            case 0: compare("alertOf", () -> model.alertOf(a), () -> hall.alertOf(a)); break;
            case 1: compare("firing", () -> model.firing(), () -> hall.firing()); break;
            case 2: compare("joinCount", () -> model.joinCount(one, other), () -> hall.joinCount(one, other)); break;
            case 3: compare("joinSum", () -> model.joinSum(one, other), () -> hall.joinSum(one, other)); break;
            case 4: compare("firingShare", () -> model.firingShare(), () -> hall.firingShare()); break;
            default: compare("isConsistent", () -> true, () -> hall.isConsistent()); break;
        }
    }
}
