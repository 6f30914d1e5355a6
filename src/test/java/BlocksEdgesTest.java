/** The boundary cases of the promises 12 to 16, sentence by sentence. */
public final class BlocksEdgesTest {
    public static void main(String[] args) {
        blocks();
        bitsOfBlocksThereAre();
        bitsOfTimes();
        bitsOfSecondTimes();
        bitsOfValues();
        bitsOfFullBlocks();
        timeAt();
        timesFarApart();
        valueAt();
        valuesFarApart();
        allBits();
        Expect.endOfPromises(12, 16);
    }

    private static void blocks() {
        Expect.promise(12, "blocks");
        GaugeHall empty = new GaugeHall();
        Expect.refused("of an empty store", Expect.NONE, () -> empty.blocks(0));
        GaugeHall hall = Halls.ofTenSeries();
        for (int bad : new int[] {-1, 10, Integer.MIN_VALUE, Integer.MAX_VALUE}) {
            Expect.refused("of the series " + bad, Expect.NONE, () -> hall.blocks(bad));
        }
        Expect.same("of an empty series", 0, () -> hall.blocks(9));
        int[][] due = {{0, 0}, {1, 1}, {7, 1}, {8, 1}, {9, 2}, {16, 2}, {17, 3}, {112, 14}, {113, 15}, {119, 15},
            {120, 15}};
        for (int[] row : due) {
            GaugeHall filled = Halls.withValues(Halls.upTo(row[0]));
            Expect.same("of " + row[0] + " samples", row[1], () -> filled.blocks(0));
        }
        GaugeHall full = Halls.withValues(Halls.upTo(120));
        Expect.refused("add to a full series", Expect.STATE, () -> full.add(0, 1));
        Expect.same("of a full series, after a refusal", 15, () -> full.blocks(0));
    }

    private static void bitsOfBlocksThereAre() {
        Expect.promise(13, "bitsOf");
        GaugeHall empty = new GaugeHall();
        Expect.refused("of an empty store", Expect.NONE, () -> empty.bitsOf(0, 0));
        GaugeHall hall = Halls.withValues();
        Expect.refused("of an empty series", Expect.OUT, () -> hall.bitsOf(0, 0));
        hall.add(0, 5);
        Expect.same("of one sample", 64, () -> hall.bitsOf(0, 0));
        Expect.refused("of the series 1", Expect.NONE, () -> hall.bitsOf(1, 0));
        Expect.refused("of the series -1", Expect.NONE, () -> hall.bitsOf(-1, 0));
        for (int[] row : new int[][] {{1, 1}, {8, 1}, {9, 2}, {112, 14}, {113, 15}, {120, 15}}) {
            GaugeHall filled = Halls.withValues(new int[row[0]]);
            int blocks = row[1];
            int lastSize = row[0] - 8 * (blocks - 1);
            int due = lastSize == 1 ? 64 : 64 + 7 + 2 * (lastSize - 2);
            Expect.same("of the last block of " + row[0], due, () -> filled.bitsOf(0, blocks - 1));
            Expect.refused("behind the last block of " + row[0], Expect.OUT, () -> filled.bitsOf(0, blocks));
            Expect.refused("before the first block of " + row[0], Expect.OUT, () -> filled.bitsOf(0, -1));
            // 8 times these wraps round to 0 and to 8.
            for (int bad : new int[] {1 << 29, (1 << 29) + 1, 1 << 30, -(1 << 29)}) {
                Expect.refused("of the block " + bad, Expect.OUT, () -> filled.bitsOf(0, bad));
            }
            for (int bad : Expect.FAR_OFF) {
                Expect.refused("of the block " + bad, Expect.OUT, () -> filled.bitsOf(0, bad));
            }
        }
    }

    private static GaugeHall threeSamples(int firstGap, int secondGap) {
        return Halls.withTimes(new long[] {3, 3 + firstGap, 3 + firstGap + secondGap}, new int[] {5, 5, 5});
    }

    private static void bitsOfTimes() {
        Expect.promise(13, "bitsOf");
        // Each row: the gaps, and the bits that the difference of them takes.
        int[][] due = {{20, 20, 1}, {20, 19, 6}, {20, 21, 6}, {20, 13, 6}, {20, 12, 15}, {20, 28, 6}, {20, 29, 15},
            {20, 14, 6}, {20, 27, 6}, {20, 1, 15}, {600, 1, 15}, {20, 600, 15}, {600, 600, 1}, {65537, 1, 15},
            {65536, 1, 15}, {1201, 1200, 6}, {30000, 29993, 6}, {30000, 29992, 15}, {30000, 30008, 6},
            {30000, 30009, 15}};
        for (int[] row : due) {
            GaugeHall hall = threeSamples(row[0], row[1]);
            Expect.same("the gaps " + row[0] + ", " + row[1], 64 + 15 + 1 + row[2] + 1, () -> hall.bitsOf(0, 0));
        }
        GaugeHall short1 = threeSamples(1, 1);
        Expect.same("the gaps 1, 1", 64 + 6 + 1 + 1 + 1, () -> short1.bitsOf(0, 0));
        GaugeHall short8 = threeSamples(8, 1);
        Expect.same("the gaps 8, 1", 64 + 6 + 1 + 6 + 1, () -> short8.bitsOf(0, 0));
        GaugeHall short9 = threeSamples(1, 9);
        Expect.same("the gaps 1, 9", 64 + 6 + 1 + 6 + 1, () -> short9.bitsOf(0, 0));
        GaugeHall short10 = threeSamples(1, 10);
        Expect.same("the gaps 1, 10", 64 + 6 + 1 + 15 + 1, () -> short10.bitsOf(0, 0));
    }

    private static void bitsOfSecondTimes() {
        Expect.promise(13, "bitsOf");
        int[][] due = {{1, 6}, {2, 6}, {7, 6}, {8, 6}, {9, 15}, {10, 15}, {600, 15}, {601, 15}, {32768, 15},
            {65536, 15}, {300000, 15}};
        for (int[] row : due) {
            GaugeHall hall = Halls.withTimes(new long[] {0, row[0]}, new int[] {5, 5});
            Expect.same("the second sample after " + row[0], 64 + row[1] + 1, () -> hall.bitsOf(0, 0));
        }
        // In the second block, the gap counts alone again, though the first block ends with the same gap.
        for (int gap : new int[] {1, 8, 9}) {
            long[] times = new long[11];
            for (int k = 0; k < times.length; k++) {
                times[k] = (long) k * gap;
            }
            GaugeHall hall = Halls.withTimes(times, new int[11]);
            int second = gap <= 8 ? 6 : 15;
            Expect.same("a second block with the gap " + gap, 64 + second + 1 + 1 + 1, () -> hall.bitsOf(0, 1));
            Expect.same("a first block with the gap " + gap, 64 + second + 1 + 6 * 2, () -> hall.bitsOf(0, 0));
        }
    }

    private static void bitsOfValues() {
        Expect.promise(13, "bitsOf");
        int[][] due = {{0, 1}, {1, 8}, {-1, 8}, {31, 8}, {32, 8}, {33, 18}, {-30, 8}, {-31, 8}, {-32, 18}, {10000, 18},
            {-10000, 18}};
        for (int[] row : due) {
            for (int first : new int[] {0, row[0] > 0 ? -10000 : 10000}) {
                GaugeHall hall = Halls.withValues(first, first + row[0]);
                Expect.same("the value " + first + " and then " + row[0] + " more", 64 + 6 + row[1],
                        () -> hall.bitsOf(0, 0));
            }
            // The value is not a difference of differences: the same step twice takes the same bits.
            int step = row[0] / 2 * 2 == row[0] ? row[0] / 2 : row[0];
            int bits = step == 0 ? 1 : step >= -31 && step <= 32 ? 8 : 18;
            GaugeHall twice = Halls.withValues(0, step, 2 * step);
            Expect.same("twice " + step + " more", 64 + 6 + bits + 1 + bits, () -> twice.bitsOf(0, 0));
        }
        GaugeHall up = Halls.withValues(-10000, 10000);
        Expect.same("from the least to the greatest value", 64 + 6 + 18, () -> up.bitsOf(0, 0));
        GaugeHall down = Halls.withValues(10000, -10000);
        Expect.same("from the greatest to the least value", 64 + 6 + 18, () -> down.bitsOf(0, 0));
    }

    private static void bitsOfFullBlocks() {
        Expect.promise(13, "bitsOf");
        GaugeHall hall = Halls.withValues(0, 0, 0, 0, 0, 0, 0);
        Expect.same("7 samples", 64 + 7 + 5 * 2, () -> hall.bitsOf(0, 0));
        hall.add(0, 0);
        Expect.same("8 samples", 64 + 7 + 6 * 2, () -> hall.bitsOf(0, 0));
        Expect.refused("add at the same time", Expect.STATE, () -> hall.add(0, 1));
        Expect.same("8 samples after a refusal", 64 + 7 + 6 * 2, () -> hall.bitsOf(0, 0));
        hall.pass(1);
        hall.add(0, 10000);
        Expect.same("the full block with a sample behind it", 64 + 7 + 6 * 2, () -> hall.bitsOf(0, 0));
        Expect.same("the first sample of the next block", 64, () -> hall.bitsOf(0, 1));
        long[] times = {0, 600, 601, 1201, 1202, 1802, 1803, 2403};
        int[] values = {-10000, 10000, -10000, 10000, -10000, 10000, -10000, 10000};
        GaugeHall widest = Halls.withTimes(times, values);
        Expect.same("the most bits of a block", 64 + 7 * (15 + 18), () -> widest.bitsOf(0, 0));
    }

    private static void timeAt() {
        Expect.promise(14, "timeAt");
        GaugeHall empty = new GaugeHall();
        Expect.refused("of an empty store", Expect.NONE, () -> empty.timeAt(0, 0));
        for (int size : new int[] {0, 1, 7, 8, 9, 119, 120}) {
            GaugeHall hall = Halls.withValues(Halls.upTo(size));
            for (int bad : new int[] {-1, size, size + 1, size + 7, size + 8, 121, 128}) {
                Expect.refused("the sample " + bad + " of " + size, Expect.OUT, () -> hall.timeAt(0, bad));
            }
            for (int bad : Expect.FAR_OFF) {
                Expect.refused("the sample " + bad + " of " + size, Expect.OUT, () -> hall.timeAt(0, bad));
            }
            for (int k = 0; k < size; k++) {
                int index = k;
                Expect.same("the sample " + k + " of " + size, (long) k, () -> hall.timeAt(0, index));
            }
            Expect.refused("of the series 1", Expect.NONE, () -> hall.timeAt(1, 0));
            Expect.refused("of the series -1", Expect.NONE, () -> hall.timeAt(-1, 0));
        }
    }

    private static void timesFarApart() {
        Expect.promise(14, "timeAt");
        // Gaps of more than 15 and of more than 16 bits, the next to a wrap of both, and short ones between.
        long[] times = {0, 1, 33000, 33001, 98537, 98538, 164074, 164674, 164675, 234675, 234676};
        GaugeHall hall = Halls.withTimes(times, new int[times.length]);
        for (int k = 0; k < times.length; k++) {
            int index = k;
            Expect.same("the sample " + k, times[k], () -> hall.timeAt(0, index));
        }
        Expect.same("what came is what the blocks tell", true, () -> hall.isConsistent());
        GaugeHall late = Halls.withTimes(new long[] {300000}, new int[] {1});
        Expect.same("one late sample", 300000L, () -> late.timeAt(0, 0));
    }

    private static void valueAt() {
        Expect.promise(15, "valueAt");
        GaugeHall empty = new GaugeHall();
        Expect.refused("of an empty store", Expect.NONE, () -> empty.valueAt(0, 0));
        for (int size : new int[] {0, 1, 7, 8, 9, 119, 120}) {
            GaugeHall hall = Halls.withValues(Halls.upTo(size));
            for (int bad : new int[] {-1, size, size + 1, size + 7, size + 8, 121, 128}) {
                Expect.refused("the sample " + bad + " of " + size, Expect.OUT, () -> hall.valueAt(0, bad));
            }
            for (int bad : Expect.FAR_OFF) {
                Expect.refused("the sample " + bad + " of " + size, Expect.OUT, () -> hall.valueAt(0, bad));
            }
            for (int k = 0; k < size; k++) {
                int index = k;
                Expect.same("the sample " + k + " of " + size, k + 1, () -> hall.valueAt(0, index));
            }
            Expect.refused("of the series 1", Expect.NONE, () -> hall.valueAt(1, 0));
            Expect.refused("of the series -1", Expect.NONE, () -> hall.valueAt(-1, 0));
        }
    }

    private static void valuesFarApart() {
        Expect.promise(15, "valueAt");
        int[] values = {-10000, 10000, -10000, -10000, 9999, -9999, 0, 10000, 10000, -10000, 32, 0, 33, 1, -31, -63};
        GaugeHall hall = Halls.withValues(values);
        for (int k = 0; k < values.length; k++) {
            int index = k;
            Expect.same("the sample " + k, values[k], () -> hall.valueAt(0, index));
        }
        Expect.same("what came is what the blocks tell", true, () -> hall.isConsistent());
    }

    private static void allBits() {
        Expect.promise(16, "allBits");
        GaugeHall empty = new GaugeHall();
        Expect.same("of an empty store", 0L, () -> empty.allBits());
        GaugeHall ten = Halls.ofTenSeries();
        Expect.same("of ten empty series", 0L, () -> ten.allBits());
        for (int k = 0; k < 10; k++) {
            long due = 64L * (k + 1);
            ten.add(k, k);
            Expect.same("of " + (k + 1) + " samples in as many series", due, () -> ten.allBits());
        }
        Expect.refused("add at the same time", Expect.STATE, () -> ten.add(9, 1));
        Expect.same("after a refusal", 640L, () -> ten.allBits());
        GaugeHall full = Halls.withValues(new int[120]);
        Expect.same("of a full series", 15L * (64 + 7 + 6 * 2), () -> full.allBits());
        Expect.refused("add to a full series", Expect.STATE, () -> full.add(0, 1));
        Expect.same("of a full series after a refusal", 15L * (64 + 7 + 6 * 2), () -> full.allBits());
        GaugeHall nine = Halls.withValues(new int[9]);
        Expect.same("of a full block and one more sample", 64L + 7 + 6 * 2 + 64, () -> nine.allBits());
    }
}
