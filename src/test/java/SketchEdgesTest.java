/** The boundary cases of the promises 26 to 30, sentence by sentence. */
public final class SketchEdgesTest {
    // How many samples, the bound then, how many values are held then.
    private static final int[][] HALVINGS = {
        {0, 0, 0}, {1, 0, 1}, {6, 0, 6}, {7, 0, 7}, {8, 1, 4}, {9, 1, 5}, {15, 1, 11}, {16, 4, 4}, {17, 4, 5},
        {23, 4, 11}, {24, 5, 8}, {31, 5, 15}, {32, 12, 4}, {33, 12, 5}, {63, 17, 19}, {64, 32, 4}, {65, 32, 5},
        {119, 48, 19}, {120, 49, 16},
    };

    private interface Ask {
        Object of(GaugeHall hall, int series, int percent);
    }

    public static void main(String[] args) {
        quantile();
        quantileByTurns();
        quantileInAnyOrder();
        quantileOfEqualValues();
        exactQuantile();
        exactQuantileOfEqualValues();
        bound();
        held();
        isWithin();
        Expect.endOfPromises(26, 30);
    }

    private static void refusals(String call, Ask ask) {
        GaugeHall empty = new GaugeHall();
        Expect.refused(call + " in an empty store", Expect.NONE, () -> ask.of(empty, 0, 50));
        GaugeHall hall = Halls.withValues(-10000, 10000);
        hall.open(3, 5);
        for (int bad : new int[] {0, 101, -1, -100, 1000, Integer.MIN_VALUE, Integer.MAX_VALUE}) {
            Expect.refused(bad + " percent", Expect.BAD, () -> ask.of(hall, 0, bad));
            Expect.refused(bad + " percent of an empty series", Expect.BAD, () -> ask.of(hall, 1, bad));
            Expect.refused(bad + " percent of no series", Expect.NONE, () -> ask.of(hall, 2, bad));
        }
        for (int percent : new int[] {1, 2, 50, 99, 100}) {
            Expect.refused(percent + " percent of an empty series", Expect.STATE, () -> ask.of(hall, 1, percent));
        }
        for (int bad : new int[] {-1, 2, 9, 10, Integer.MIN_VALUE, Integer.MAX_VALUE}) {
            Expect.refused("of the series " + bad, Expect.NONE, () -> ask.of(hall, bad, 50));
        }
    }

    /** The samples 1 to size: the target itself is the value, before a halving and for the exact quantile. */
    private static void targets(int size, int[][] percentsAndTargets, Ask ask) {
        GaugeHall hall = Halls.withValues(Halls.upTo(size));
        for (int[] row : percentsAndTargets) {
            Expect.same(row[0] + " percent of " + size, row[1], () -> ask.of(hall, 0, row[0]));
        }
    }

    private static void smallTargets(Ask ask) {
        targets(1, new int[][] {{1, 1}, {50, 1}, {99, 1}, {100, 1}}, ask);
        targets(2, new int[][] {{1, 1}, {49, 1}, {50, 1}, {51, 2}, {99, 2}, {100, 2}}, ask);
        targets(3, new int[][] {{1, 1}, {33, 1}, {34, 2}, {66, 2}, {67, 3}, {100, 3}}, ask);
        targets(4, new int[][] {{1, 1}, {25, 1}, {26, 2}, {50, 2}, {51, 3}, {75, 3}, {76, 4}, {100, 4}}, ask);
        targets(5, new int[][] {{1, 1}, {20, 1}, {21, 2}, {40, 2}, {41, 3}, {80, 4}, {81, 5}, {100, 5}}, ask);
        targets(7, new int[][] {{1, 1}, {14, 1}, {15, 2}, {28, 2}, {29, 3}, {85, 6}, {86, 7}, {100, 7}}, ask);
    }

    private static void quantile() {
        Expect.promise(26, "quantile");
        Ask ask = (hall, series, percent) -> hall.quantile(series, percent);
        refusals("quantile", ask);
        smallTargets(ask);
        // Eight values are halved at once: 2, 4, 6 and 8 stand for 2 samples each.
        targets(8, new int[][] {{1, 2}, {12, 2}, {13, 2}, {25, 2}, {26, 4}, {50, 4}, {51, 6}, {75, 6}, {76, 8},
            {100, 8}}, ask);
        // The ninth one stands for itself alone: the targets 1 to 9 of 9.
        targets(9, new int[][] {{11, 2}, {12, 2}, {22, 2}, {23, 4}, {44, 4}, {45, 6}, {66, 6}, {67, 8}, {88, 8},
            {89, 9}, {100, 9}}, ask);
    }

    private static void quantileByTurns() {
        Expect.promise(26, "quantile");
        // Of 9 to 16, 9, 11, 13 and 15 follow, which fill the level 1: 4, 8, 11 and 15 for 4 each.
        int[][] second = {{1, 4}, {25, 4}, {26, 8}, {50, 8}, {51, 11}, {75, 11}, {76, 15}, {100, 15}};
        targets(16, second, (hall, series, percent) -> hall.quantile(series, percent));
        // Of 17 to 24, the second one and so on again: 18, 20, 22 and 24 for 2 each.
        int[][] third = {{66, 15}, {67, 18}, {75, 18}, {76, 20}, {83, 20}, {84, 22}, {91, 22}, {92, 24}, {100, 24}};
        targets(24, third, (hall, series, percent) -> hall.quantile(series, percent));
        // Of 25 to 32, 25, 27, 29 and 31; the level 1 gives, for the second time, the first one and so on of
        // 18 20 22 24 25 27 29 31; the level 2 gives, for the first time, the second one and so on of
        // 4 8 11 15 18 22 25 29.
        int[][] fourth = {{1, 8}, {25, 8}, {26, 15}, {50, 15}, {51, 22}, {75, 22}, {76, 29}, {100, 29}};
        targets(32, fourth, (hall, series, percent) -> hall.quantile(series, percent));
        // The third and fourth time at the levels 0 and 1, the second time at the level 2, the first time at
        // the level 3, which takes 8 15 22 29 and, of 36 40 43 47 50 54 57 61, 36 43 50 57.
        int[][] deepest = {{1, 15}, {25, 15}, {26, 29}, {50, 29}, {51, 43}, {75, 43}, {76, 57}, {100, 57}};
        targets(64, deepest, (hall, series, percent) -> hall.quantile(series, percent));
    }

    /** The values of a level are put in ascending order, in whichever order they came. */
    private static void quantileInAnyOrder() {
        Expect.promise(26, "quantile");
        int[][] orders = {{8, 7, 6, 5, 4, 3, 2, 1}, {2, 1, 4, 3, 6, 5, 8, 7}, {2, 3, 4, 5, 6, 7, 8, 1},
            {8, 1, 2, 3, 4, 5, 6, 7}, {5, 6, 7, 8, 1, 2, 3, 4}, {1, 8, 2, 7, 3, 6, 4, 5}};
        for (int[] order : orders) {
            int[] blocks = new int[16];
            for (int k = 0; k < 8; k++) {
                blocks[k] = order[k] + 8;
                blocks[k + 8] = order[k];
            }
            GaugeHall once = Halls.withValues(order);
            int[] due = {2, 4, 6, 8};
            // First 10, 12, 14 and 16 go up, then 1, 3, 5 and 7: the level 1 gives 3, 7, 12 and 16.
            GaugeHall twice = Halls.withValues(blocks);
            int[] dueThen = {3, 7, 12, 16};
            for (int k = 0; k < 4; k++) {
                int percent = 25 * (k + 1);
                Expect.same(percent + " percent of 8", due[k], () -> once.quantile(0, percent));
                Expect.same(percent + " percent of 16", dueThen[k], () -> twice.quantile(0, percent));
            }
        }
    }

    private static void quantileOfEqualValues() {
        Expect.promise(26, "quantile");
        for (int value : new int[] {-10000, 0, 10000}) {
            for (int size : new int[] {1, 7, 8, 16, 120}) {
                int[] values = new int[size];
                for (int k = 0; k < size; k++) {
                    values[k] = value;
                }
                GaugeHall hall = Halls.withValues(values);
                for (int percent : new int[] {1, 50, 100}) {
                    Expect.same(percent + " percent of " + size + " times " + value, value,
                            () -> hall.quantile(0, percent));
                }
            }
        }
        // 5 stands for two samples of the level 1 and one of the level 0, for 5 samples in all.
        GaugeHall mixed = Halls.withValues(5, 5, 5, 5, 9, 9, 9, 9, 5);
        Expect.same("target 5 of 9", 5, () -> mixed.quantile(0, 55));
        Expect.same("target 6 of 9", 9, () -> mixed.quantile(0, 56));
        GaugeHall edges = Halls.withValues(10000, -10000);
        Expect.same("the least value", -10000, () -> edges.quantile(0, 50));
        Expect.same("the greatest value", 10000, () -> edges.quantile(0, 51));
    }

    private static void exactQuantile() {
        Expect.promise(27, "exactQuantile");
        Ask ask = (hall, series, percent) -> hall.exactQuantile(series, percent);
        refusals("exactQuantile", ask);
        smallTargets(ask);
        targets(8, new int[][] {{1, 1}, {12, 1}, {13, 2}, {25, 2}, {26, 3}, {50, 4}, {51, 5}, {100, 8}}, ask);
        targets(101, new int[][] {{1, 2}, {50, 51}, {99, 100}, {100, 101}}, ask);
        targets(120, new int[][] {{1, 2}, {5, 6}, {6, 8}, {10, 12}, {50, 60}, {55, 66}, {95, 114}, {99, 119},
            {100, 120}}, ask);
        // With 100 samples, no percent is rounded, though some parts are no exact binary fractions.
        GaugeHall hundred = Halls.withValues(Halls.upTo(100));
        for (int percent = 1; percent <= 100; percent++) {
            int due = percent;
            Expect.same(percent + " percent of 100", due, () -> hundred.exactQuantile(0, due));
        }
    }

    private static void exactQuantileOfEqualValues() {
        Expect.promise(27, "exactQuantile");
        GaugeHall hall = Halls.withValues(7, 7, -10000, 10000, 7, 7);
        Expect.same("target 1 of 6", -10000, () -> hall.exactQuantile(0, 16));
        Expect.same("target 2 of 6", 7, () -> hall.exactQuantile(0, 17));
        Expect.same("target 5 of 6", 7, () -> hall.exactQuantile(0, 83));
        Expect.same("target 6 of 6", 10000, () -> hall.exactQuantile(0, 84));
        GaugeHall falling = Halls.withValues(9, 8, 7, 6, 5, 4, 3, 2, 1);
        Expect.same("target 1 of 9", 1, () -> falling.exactQuantile(0, 11));
        Expect.same("target 2 of 9", 2, () -> falling.exactQuantile(0, 12));
        Expect.same("target 9 of 9", 9, () -> falling.exactQuantile(0, 100));
    }

    private static void refusedNumbers(String call, GaugeHall hall, Ask ask) {
        for (int bad : new int[] {-1, 1, 9, 10, Integer.MIN_VALUE, Integer.MAX_VALUE}) {
            Expect.refused(call + "(" + bad + ")", Expect.NONE, () -> ask.of(hall, bad, 0));
        }
        GaugeHall empty = new GaugeHall();
        Expect.refused(call + "(0) of an empty store", Expect.NONE, () -> ask.of(empty, 0, 0));
    }

    private static void bound() {
        Expect.promise(28, "bound");
        refusedNumbers("bound", Halls.withValues(1), (hall, series, unused) -> hall.bound(series));
        for (int[] row : HALVINGS) {
            GaugeHall hall = Halls.withValues(Halls.upTo(row[0]));
            Expect.same("of " + row[0] + " samples", row[1], () -> hall.bound(0));
        }
        GaugeHall seven = Halls.withTimes(new long[] {0, 1, 2, 3, 4, 5, 6}, new int[7]);
        Expect.refused("an eighth one at the same time", Expect.STATE, () -> seven.add(0, 1));
        Expect.refused("an eighth one out of range", Expect.BAD, () -> seven.add(0, 10001));
        Expect.same("of 7 samples after refusals", 0, () -> seven.bound(0));
        seven.pass(1);
        seven.add(0, 1);
        Expect.same("of 8 samples after refusals", 1, () -> seven.bound(0));
        GaugeHall ten = Halls.ofTenSeries();
        Expect.same("of the last of ten empty series", 0, () -> ten.bound(9));
    }

    private static void held() {
        Expect.promise(29, "held");
        refusedNumbers("held", Halls.withValues(1), (hall, series, unused) -> hall.held(series));
        for (int[] row : HALVINGS) {
            GaugeHall hall = Halls.withValues(Halls.upTo(row[0]));
            Expect.same("of " + row[0] + " samples", row[2], () -> hall.held(0));
        }
        GaugeHall equal = Halls.withValues(new int[8]);
        Expect.same("equal values are held one by one", 4, () -> equal.held(0));
        GaugeHall full = Halls.withValues(new int[120]);
        Expect.refused("add to a full series", Expect.STATE, () -> full.add(0, 1));
        Expect.same("of a full series after a refusal", 16, () -> full.held(0));
        GaugeHall ten = Halls.ofTenSeries();
        Expect.same("of the last of ten empty series", 0, () -> ten.held(9));
    }

    private static void isWithin() {
        Expect.promise(30, "isWithin");
        refusals("isWithin", (hall, series, percent) -> hall.isWithin(series, percent));
        for (int[] row : HALVINGS) {
            GaugeHall hall = Halls.withValues(Halls.upTo(row[0]));
            for (int percent = 1; percent <= 100 && row[0] > 0; percent++) {
                int part = percent;
                Expect.same(percent + " percent of " + row[0], true, () -> hall.isWithin(0, part));
            }
        }
        GaugeHall equal = Halls.withValues(new int[120]);
        for (int percent = 1; percent <= 100; percent++) {
            int part = percent;
            Expect.same(percent + " percent of 120 equal ones", true, () -> equal.isWithin(0, part));
        }
    }
}
