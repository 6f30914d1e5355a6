import java.lang.reflect.Field;

/**
 * The promises 30 and 38 where they answer false. No run of calls leads there, as the bound always covers
 * what the sketch is off by: so this test alone reaches into the private fields and damages them.
 */
public final class DamageTest {
    private static final int[] WEIGHTS = {16, 8, 4, 2, 1};

    public static void main(String[] args) throws ReflectiveOperationException {
        withinFromBelow();
        withinFromAbove();
        blocksTellOtherSamples();
        sketchStandsForOtherNumbers();
        eachPercentCounts();
        eachSeriesCounts();
        Expect.end();
    }

    private static Object part(Object owner, String name) throws ReflectiveOperationException {
        Field field = owner.getClass().getDeclaredField(name);
        field.setAccessible(true);
        return field.get(owner);
    }

    private static Object series(GaugeHall hall, int number) throws ReflectiveOperationException {
        return ((Object[]) part(hall, "rows"))[number];
    }

    private static void setBound(GaugeHall hall, int bound) throws ReflectiveOperationException {
        Object sketch = part(series(hall, 0), "sketch");
        Field field = sketch.getClass().getDeclaredField("bound");
        field.setAccessible(true);
        field.setInt(sketch, bound);
    }

    /** Puts other values into the sketch of the series 0: each row is a value and for how many it stands. */
    private static void setSketch(GaugeHall hall, int[][] valuesAndWeights) throws ReflectiveOperationException {
        Object sketch = part(series(hall, 0), "sketch");
        int[][] levels = (int[][]) part(sketch, "levels");
        int[] sizes = (int[]) part(sketch, "sizes");
        for (int level = 0; level < sizes.length; level++) {
            sizes[level] = 0;
        }
        for (int[] row : valuesAndWeights) {
            int left = row[1];
            for (int k = 0; k < WEIGHTS.length; k++) {
                int level = WEIGHTS.length - 1 - k;
                while (left >= WEIGHTS[k]) {
                    levels[level][sizes[level]] = row[0];
                    sizes[level]++;
                    left -= WEIGHTS[k];
                }
            }
        }
    }

    private static void within(GaugeHall hall, int percent, int bound, boolean due)
            throws ReflectiveOperationException {
        setBound(hall, bound);
        Expect.same("isWithin(0, " + percent + ") with the bound " + bound, due, () -> hall.isWithin(0, percent));
    }

    private static void withinFromBelow() throws ReflectiveOperationException {
        Expect.promise(30, "isWithin, a quantile that is too small");
        GaugeHall hall = Halls.withValues(1, 2, 3, 4, 5);
        // The target of 60 percent is 3; one sample is not greater than 1.
        setSketch(hall, new int[][] {{1, 3}, {4, 2}});
        within(hall, 60, 0, false);
        within(hall, 60, 1, false);
        within(hall, 60, 2, true);
        setSketch(hall, new int[][] {{2, 3}, {4, 2}});
        within(hall, 60, 0, false);
        within(hall, 60, 1, true);
        setSketch(hall, new int[][] {{3, 3}, {4, 2}});
        within(hall, 60, 0, true);
    }

    private static void withinFromAbove() throws ReflectiveOperationException {
        Expect.promise(30, "isWithin, a quantile that is too great");
        GaugeHall hall = Halls.withValues(1, 2, 3, 4, 5);
        // The target of 40 percent is 2; two samples are less than 3, four are less than 5.
        setSketch(hall, new int[][] {{3, 5}});
        within(hall, 40, 0, false);
        within(hall, 40, 1, true);
        setSketch(hall, new int[][] {{5, 5}});
        within(hall, 40, 0, false);
        within(hall, 40, 2, false);
        within(hall, 40, 3, true);
        // All five are less than 6.
        setSketch(hall, new int[][] {{6, 5}});
        within(hall, 40, 3, false);
        within(hall, 40, 4, true);
        GaugeHall equal = Halls.withValues(1, 3, 3, 3, 5);
        setSketch(equal, new int[][] {{3, 5}});
        within(equal, 40, 0, true);
        within(equal, 20, 0, false);
        within(equal, 20, 1, true);
    }

    private static void blocksTellOtherSamples() throws ReflectiveOperationException {
        Expect.promise(38, "isConsistent, blocks that tell other samples than came");
        GaugeHall hall = Halls.withValues(Halls.upTo(19));
        long[] times = (long[]) part(series(hall, 0), "times");
        int[] values = (int[]) part(series(hall, 0), "values");
        for (int k = 0; k < 19; k++) {
            times[k]++;
            Expect.same("another time of the sample " + k, false, () -> hall.isConsistent());
            times[k]--;
            values[k]++;
            Expect.same("another value of the sample " + k, false, () -> hall.isConsistent());
            values[k]--;
            Expect.same("all as it was", true, () -> hall.isConsistent());
        }
    }

    private static void sketchStandsForOtherNumbers() throws ReflectiveOperationException {
        Expect.promise(38, "isConsistent, a sketch that stands for another number of samples");
        GaugeHall hall = Halls.withValues(7, 7, 7, 7, 7);
        int[][] due = {{4, 0}, {5, 1}, {6, 0}};
        for (int[] row : due) {
            setSketch(hall, new int[][] {{7, row[0]}});
            // The bound leaves the quantiles room: the number alone counts.
            setBound(hall, 1);
            Expect.same(row[0] + " instead of 5", row[1] == 1, () -> hall.isConsistent());
        }
    }

    private static void eachPercentCounts() throws ReflectiveOperationException {
        Expect.promise(38, "isConsistent, a quantile that is further off than the bound");
        GaugeHall hall = Halls.withValues(Halls.upTo(100));
        setBound(hall, 0);
        // With the values 1 to 100, a quantile is right where it is the percent itself.
        setSketch(hall, new int[][] {{10, 49}, {50, 40}, {90, 11}});
        Expect.same("all three are right", true, () -> hall.isConsistent());
        setSketch(hall, new int[][] {{9, 9}, {11, 40}, {50, 40}, {90, 11}});
        Expect.same("10 percent alone is off", false, () -> hall.isConsistent());
        setSketch(hall, new int[][] {{10, 48}, {49, 1}, {51, 40}, {90, 11}});
        Expect.same("50 percent alone is off", false, () -> hall.isConsistent());
        setSketch(hall, new int[][] {{10, 49}, {50, 39}, {89, 1}, {91, 11}});
        Expect.same("90 percent alone is off", false, () -> hall.isConsistent());
    }

    private static void eachSeriesCounts() throws ReflectiveOperationException {
        Expect.promise(38, "isConsistent, one series of ten");
        for (int damaged = 0; damaged < 10; damaged++) {
            GaugeHall hall = Halls.ofTenSeries();
            for (int number = 0; number < 10; number++) {
                hall.add(number, number);
            }
            ((int[]) part(series(hall, damaged), "values"))[0]--;
            Expect.same("the series " + damaged + " is damaged", false, () -> hall.isConsistent());
        }
    }
}
