import java.util.NoSuchElementException;

/** Promises 26 to 30: sketches and quantiles. */
public final class SketchTest {
    private static final Class<IllegalArgumentException> BAD = IllegalArgumentException.class;
    private static final Class<IllegalStateException> STATE = IllegalStateException.class;
    private static final Class<NoSuchElementException> NONE = NoSuchElementException.class;

    public static void main(String[] args) {
        beforeAHalving();
        halvings();
        fullSeries();
        equalValues();
        within();
        wrongInputs();
        Expect.end();
    }

    private static GaugeHall filled(int... values) {
        GaugeHall hall = new GaugeHall();
        hall.open(0, 0);
        for (int value : values) {
            hall.add(0, value);
            hall.pass(1);
        }
        return hall;
    }

    private static void quantiles(GaugeHall hall, int percent, int due, int exact) {
        Expect.same("quantile(0, " + percent + ")", due, () -> hall.quantile(0, percent));
        Expect.same("exactQuantile(0, " + percent + ")", exact, () -> hall.exactQuantile(0, percent));
    }

    private static void boundAndHeld(GaugeHall hall, int bound, int held) {
        Expect.same("bound", bound, () -> hall.bound(0));
        Expect.same("held", held, () -> hall.held(0));
    }

    private static void beforeAHalving() {
        GaugeHall hall = filled();
        boundAndHeld(hall, 0, 0);
        hall = filled(30, -10, 20, 0, 40, 10, -20);
        boundAndHeld(hall, 0, 7);
        // The targets of 7 samples: 1, 1, 2, 4, 4, 5, 7, 7.
        quantiles(hall, 1, -20, -20);
        quantiles(hall, 14, -20, -20);
        quantiles(hall, 15, -10, -10);
        quantiles(hall, 50, 10, 10);
        quantiles(hall, 57, 10, 10);
        quantiles(hall, 58, 20, 20);
        quantiles(hall, 86, 40, 40);
        quantiles(hall, 100, 40, 40);
    }

    private static void halvings() {
        // Put in order, the second, fourth, sixth and eighth go up: 2 4 6 8, each for 2 samples.
        GaugeHall once = filled(8, 1, 7, 2, 6, 3, 5, 4);
        boundAndHeld(once, 1, 4);
        quantiles(once, 1, 2, 1);
        quantiles(once, 25, 2, 2);
        quantiles(once, 26, 4, 3);
        quantiles(once, 50, 4, 4);
        quantiles(once, 51, 6, 5);
        quantiles(once, 100, 8, 8);
        // The second time the first, third, fifth and seventh: 11 13 15 17; that fills the level 1,
        // and 4 8 13 17 go up to the level 2, each for 4 samples.
        GaugeHall twice = filled(8, 7, 6, 5, 4, 3, 2, 1, 18, 17, 16, 15, 14, 13, 12, 11);
        boundAndHeld(twice, 4, 4);
        quantiles(twice, 1, 4, 1);
        quantiles(twice, 25, 4, 4);
        quantiles(twice, 26, 8, 5);
        quantiles(twice, 50, 8, 8);
        quantiles(twice, 51, 13, 11);
        quantiles(twice, 75, 13, 14);
        quantiles(twice, 76, 17, 15);
        quantiles(twice, 100, 17, 18);
        // The third time again the second, fourth, sixth and eighth: 22 24 26 28, each for 2 samples.
        GaugeHall thrice = filled(8, 7, 6, 5, 4, 3, 2, 1, 18, 17, 16, 15, 14, 13, 12, 11,
                21, 22, 23, 24, 25, 26, 27, 28);
        boundAndHeld(thrice, 5, 8);
        quantiles(thrice, 67, 22, 21);
        quantiles(thrice, 76, 24, 23);
        quantiles(thrice, 100, 28, 28);
        // The fourth time the first, third, fifth and seventh: 31 33 35 37. The level 1, full for the
        // second time, gives 22 26 31 35 to the level 2: 4 8 13 17 22 26 31 35, of which 8 17 26 35
        // go to the level 3, each for 8 samples.
        GaugeHall often = filled(8, 7, 6, 5, 4, 3, 2, 1, 18, 17, 16, 15, 14, 13, 12, 11,
                21, 22, 23, 24, 25, 26, 27, 28, 31, 32, 33, 34, 35, 36, 37, 38);
        boundAndHeld(often, 4 + 2 * 2 + 4, 4);
        quantiles(often, 25, 8, 8);
        quantiles(often, 26, 17, 11);
        quantiles(often, 75, 26, 28);
        quantiles(often, 76, 35, 31);
        // One more stands beside them on the level 0.
        GaugeHall more = filled(8, 7, 6, 5, 4, 3, 2, 1, 18, 17, 16, 15, 14, 13, 12, 11, 0);
        boundAndHeld(more, 4, 5);
        quantiles(more, 5, 0, 0);
        quantiles(more, 6, 4, 1);
    }

    private static void fullSeries() {
        int[] values = new int[120];
        for (int k = 0; k < values.length; k++) {
            values[k] = (k * 77) % 120;
        }
        GaugeHall hall = filled(values);
        // 15 halvings of the level 0, 7 of the level 1, 3 of the level 2, 1 of the level 3.
        boundAndHeld(hall, 15 + 7 * 2 + 3 * 4 + 8, 16);
        for (int percent = 1; percent <= 100; percent++) {
            int part = percent;
            int target = (120 * percent + 99) / 100;
            Expect.same("exactQuantile(0, " + percent + ")", target - 1, () -> hall.exactQuantile(0, part));
            Expect.same("isWithin(0, " + percent + ")", true, () -> hall.isWithin(0, part));
        }
    }

    private static void equalValues() {
        GaugeHall hall = filled(3, 3, 3, 3, 3, 3, 3, 9, 3);
        boundAndHeld(hall, 1, 5);
        quantiles(hall, 50, 3, 3);
        quantiles(hall, 77, 3, 3);
        quantiles(hall, 78, 9, 3);
        quantiles(hall, 89, 9, 9);
        GaugeHall edges = filled(10000, 10000);
        quantiles(edges, 1, 10000, 10000);
        quantiles(edges, 100, 10000, 10000);
        GaugeHall low = filled(-10000);
        quantiles(low, 1, -10000, -10000);
        quantiles(low, 100, -10000, -10000);
    }

    private static void within() {
        GaugeHall hall = filled(8, 7, 6, 5, 4, 3, 2, 1, 18, 17, 16, 15, 14, 13, 12, 11);
        for (int percent : new int[] {1, 10, 25, 50, 51, 90, 100}) {
            Expect.same("isWithin(0, " + percent + ")", true, () -> hall.isWithin(0, percent));
        }
        GaugeHall one = filled(0);
        Expect.same("isWithin of one sample", true, () -> one.isWithin(0, 50));
    }

    private static void wrongInputs() {
        GaugeHall hall = filled(5);
        hall.open(0, 1);
        for (int bad : new int[] {0, 101, -1, Integer.MIN_VALUE, Integer.MAX_VALUE}) {
            refusedByAll(hall, 0, bad, BAD);
            refusedByAll(hall, 1, bad, BAD);
            refusedByAll(hall, 2, bad, NONE);
        }
        refusedByAll(hall, 1, 1, STATE);
        refusedByAll(hall, 1, 100, STATE);
        refusedByAll(hall, -1, 50, NONE);
        for (int bad : new int[] {-1, 2, 10, Integer.MIN_VALUE, Integer.MAX_VALUE}) {
            Expect.refused("bound(" + bad + ")", NONE, () -> hall.bound(bad));
            Expect.refused("held(" + bad + ")", NONE, () -> hall.held(bad));
        }
        Expect.same("bound of a series without samples", 0, () -> hall.bound(1));
        Expect.same("held of a series without samples", 0, () -> hall.held(1));
    }

    private static void refusedByAll(
            GaugeHall hall, int series, int percent, Class<? extends RuntimeException> due) {
        String told = "(" + series + ", " + percent + ")";
        Expect.refused("quantile" + told, due, () -> hall.quantile(series, percent));
        Expect.refused("exactQuantile" + told, due, () -> hall.exactQuantile(series, percent));
        Expect.refused("isWithin" + told, due, () -> hall.isWithin(series, percent));
    }
}
