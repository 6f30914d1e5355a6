import java.util.NoSuchElementException;

/** Promises 12 to 16: blocks. */
public final class BlocksTest {
    private static final Class<IndexOutOfBoundsException> OUT = IndexOutOfBoundsException.class;
    private static final Class<NoSuchElementException> NONE = NoSuchElementException.class;

    // Each row: the seconds since the sample before, the value, the bits of the block then.
    private static final int[][] SAMPLES = {
        {3, 0, 64},
        {8, 32, 64 + 6 + 8},
        {1, 1, 78 + 6 + 8},
        {10, 34, 92 + 15 + 18},
        {2, 2, 125 + 15 + 18},
        {2, 2, 158 + 1 + 1},
        {1, 2, 160 + 6 + 1},
        {1, 3, 167 + 1 + 8},
        {1, 3, 64},
        {1, 3, 64 + 6 + 1},
        {9, -10000, 71 + 6 + 18},
        {18, 10000, 95 + 15 + 18},
        {9, 9969, 128 + 15 + 8},
        {2, 10000, 151 + 6 + 8},
    };

    public static void main(String[] args) {
        bits();
        secondSampleOfABlock();
        counting();
        reading();
        allBits();
        Expect.end();
    }

    private static void bits() {
        GaugeHall hall = new GaugeHall();
        hall.open(0, 0);
        Expect.refused("bitsOf without blocks", OUT, () -> hall.bitsOf(0, 0));
        for (int k = 0; k < SAMPLES.length; k++) {
            hall.pass(SAMPLES[k][0]);
            hall.add(0, SAMPLES[k][1]);
            int block = k / 8;
            Expect.same("bits after sample " + k, SAMPLES[k][2], () -> hall.bitsOf(0, block));
            Expect.refused("the block behind the last one", OUT, () -> hall.bitsOf(0, block + 1));
        }
        Expect.same("bits of the full block", 176, () -> hall.bitsOf(0, 0));
        for (int bad : new int[] {-1, 2, 15, Integer.MIN_VALUE, Integer.MAX_VALUE}) {
            Expect.refused("bitsOf(0, " + bad + ")", OUT, () -> hall.bitsOf(0, bad));
        }
        Expect.refused("bitsOf(1, 0)", NONE, () -> hall.bitsOf(1, 0));
        Expect.refused("bitsOf(-1, -1)", NONE, () -> hall.bitsOf(-1, -1));
    }

    private static void secondSampleOfABlock() {
        int[] gaps = {1, 8, 9, 600};
        int[] due = {64 + 6 + 1, 64 + 6 + 1, 64 + 15 + 1, 64 + 15 + 1};
        for (int k = 0; k < gaps.length; k++) {
            GaugeHall hall = new GaugeHall();
            hall.open(0, 0);
            hall.add(0, 5);
            hall.pass(gaps[k]);
            hall.add(0, 5);
            Expect.same("second sample after " + gaps[k], due[k], () -> hall.bitsOf(0, 0));
        }
    }

    private static void counting() {
        GaugeHall hall = new GaugeHall();
        hall.open(0, 0);
        hall.open(0, 1);
        Expect.same("blocks without samples", 0, () -> hall.blocks(0));
        for (int k = 1; k <= 120; k++) {
            hall.add(0, -k);
            hall.pass(1);
            int due = (k + 7) / 8;
            Expect.same("blocks with " + k + " samples", due, () -> hall.blocks(0));
        }
        Expect.same("blocks of the other series", 0, () -> hall.blocks(1));
        Expect.same("bits of the last block", 64 + 6 + 6 * 1 + 7 * 8, () -> hall.bitsOf(0, 14));
        Expect.refused("bits behind the last block", OUT, () -> hall.bitsOf(0, 15));
        Expect.refused("blocks(2)", NONE, () -> hall.blocks(2));
        Expect.refused("blocks(-1)", NONE, () -> hall.blocks(-1));
    }

    private static void reading() {
        GaugeHall hall = new GaugeHall();
        hall.open(0, 0);
        Expect.refused("timeAt without samples", OUT, () -> hall.timeAt(0, 0));
        Expect.refused("valueAt without samples", OUT, () -> hall.valueAt(0, 0));
        for (int[] sample : SAMPLES) {
            hall.pass(sample[0]);
            hall.add(0, sample[1]);
        }
        long time = 0;
        for (int k = 0; k < SAMPLES.length; k++) {
            int index = k;
            time += SAMPLES[k][0];
            Expect.same("timeAt(0, " + k + ")", time, () -> hall.timeAt(0, index));
            Expect.same("valueAt(0, " + k + ")", SAMPLES[k][1], () -> hall.valueAt(0, index));
        }
        // 14 and 15 are places in the last block without a sample yet, 16 is behind it.
        for (int bad : new int[] {-1, -8, 14, 15, 16, 120, Integer.MIN_VALUE, Integer.MAX_VALUE}) {
            Expect.refused("timeAt(0, " + bad + ")", OUT, () -> hall.timeAt(0, bad));
            Expect.refused("valueAt(0, " + bad + ")", OUT, () -> hall.valueAt(0, bad));
        }
        Expect.refused("timeAt(1, -1)", NONE, () -> hall.timeAt(1, -1));
        Expect.refused("valueAt(1, -1)", NONE, () -> hall.valueAt(1, -1));
    }

    private static void allBits() {
        GaugeHall hall = new GaugeHall();
        hall.open(0, 0);
        hall.open(0, 1);
        Expect.same("allBits without samples", 0, () -> hall.allBits());
        for (int[] sample : SAMPLES) {
            hall.pass(sample[0]);
            hall.add(0, sample[1]);
        }
        Expect.same("allBits of two blocks", 176 + 165, () -> hall.allBits());
        hall.add(1, 9);
        Expect.same("allBits of two series", 176 + 165 + 64, () -> hall.allBits());
    }
}
