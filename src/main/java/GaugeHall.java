import java.util.NoSuchElementException;

/** A store of measured values; ../shared/DOC.md says what each call promises. */
public final class GaugeHall {
    private static final int LABELS = 10;
    private static final int MOST_SERIES = 10;
    private static final int MOST_SAMPLES = 120;
    private static final int MOST_VALUE = 10000;
    private static final int MOST_SECONDS = 600;

    private static final int BLOCK_SIZE = 8;
    private static final int MOST_BLOCKS = 15;
    private static final int FIRST_SAMPLE_BITS = 64;
    private static final int ROLLUP_SECONDS = 10;

    // 120 samples halve the level 3 once; the level 4 has 4 values then and is never full.
    private static final int LEVELS = 5;
    private static final int LEVEL_SIZE = 8;

    private static final char OFF = 'o';
    private static final char PENDING = 'p';
    private static final char FIRING = 'f';

    private final Series[] rows;
    private final Totals totals;
    private int opened;
    private long now;

    public GaugeHall() {
        rows = new Series[MOST_SERIES];
        totals = new Totals();
        opened = 0;
        now = 0;
    }

    // Series and samples

    public int open(int name, int host) throws IllegalArgumentException, IllegalStateException {
        if (!isLabel(name) || !isLabel(host)) {
            throw new IllegalArgumentException("a label is not from 0 to 9");
        }
        if (numberWith(name, host) >= 0) {
            throw new IllegalStateException("there is a series with these labels");
        }
        if (opened >= rows.length) {
            throw new IllegalStateException("there are 10 series");
        }
        rows[opened] = new Series(name, host);
        opened++;
        return opened - 1;
    }

    public long pass(int seconds) throws IllegalArgumentException {
        if (seconds < 1 || seconds > MOST_SECONDS) {
            throw new IllegalArgumentException("the seconds are not from 1 to 600");
        }
        now += seconds;
        return now;
    }

    public int add(int series, int value)
            throws NoSuchElementException, IllegalArgumentException, IllegalStateException {
        Series row = rowOf(series);
        if (!isValue(value)) {
            throw new IllegalArgumentException("the value is not from -10000 to 10000");
        }
        if (row.isFull()) {
            throw new IllegalStateException("the series has 120 samples");
        }
        if (row.hasSampleAt(now)) {
            throw new IllegalStateException("the series has a sample with the present time");
        }
        row.take(now, value);
        return row.size;
    }

    public long time() {
        return now;
    }

    public int seriesCount() {
        return opened;
    }

    public int find(int name, int host) throws NoSuchElementException {
        int number = numberWith(name, host);
        if (number < 0) {
            throw new NoSuchElementException("there is no series with these labels");
        }
        return number;
    }

    public int nameOf(int series) throws NoSuchElementException {
        return rowOf(series).name;
    }

    public int hostOf(int series) throws NoSuchElementException {
        return rowOf(series).host;
    }

    public int samples(int series) throws NoSuchElementException {
        return rowOf(series).size;
    }

    public int latest(int series) throws NoSuchElementException, IllegalStateException {
        Series row = rowOf(series);
        refuseEmpty(row);
        return row.newestValue();
    }

    // Blocks

    public int blocks(int series) throws NoSuchElementException {
        return rowOf(series).blockCount();
    }

    public int bitsOf(int series, int block) throws NoSuchElementException, IndexOutOfBoundsException {
        Block found = rowOf(series).blockAt(block);
        if (found == null) {
            throw new IndexOutOfBoundsException("there is no such block");
        }
        return found.bits;
    }

    public long timeAt(int series, int index) throws NoSuchElementException, IndexOutOfBoundsException {
        return blockOfSample(rowOf(series), index).timeOfSample(index % BLOCK_SIZE);
    }

    public int valueAt(int series, int index) throws NoSuchElementException, IndexOutOfBoundsException {
        return blockOfSample(rowOf(series), index).valueOfSample(index % BLOCK_SIZE);
    }

    public long allBits() {
        long bits = 0;
        for (Series row : rows) {
            if (row != null) {
                bits += row.blockBits();
            }
        }
        return bits;
    }

    // Ranges and rollups

    public int count(int series, long from, long to)
            throws NoSuchElementException, IllegalArgumentException {
        readBlocks(series, from, to);
        return totals.found;
    }

    public long sum(int series, long from, long to)
            throws NoSuchElementException, IllegalArgumentException {
        readBlocks(series, from, to);
        return totals.total;
    }

    public long sumByReading(int series, long from, long to)
            throws NoSuchElementException, IllegalArgumentException {
        Series row = rowOf(series);
        refuseBadRange(from, to);
        row.readSamples(totals, from, to);
        return totals.total;
    }

    public int maximum(int series, long from, long to)
            throws NoSuchElementException, IllegalArgumentException, IllegalStateException {
        readBlocks(series, from, to);
        if (totals.found == 0) {
            throw new IllegalStateException("the range has no samples");
        }
        return totals.greatest;
    }

    public double mean(int series, long from, long to)
            throws NoSuchElementException, IllegalArgumentException, ArithmeticException {
        readBlocks(series, from, to);
        if (totals.found == 0) {
            throw new ArithmeticException("the range has no samples");
        }
        return (double) totals.total / (double) totals.found;
    }

    public int rollupCount(int series, int index) throws NoSuchElementException, IllegalArgumentException {
        Series row = rowOf(series);
        if (index < 0) {
            throw new IllegalArgumentException("the index is less than 0");
        }
        long start = (long) index * ROLLUP_SECONDS;
        row.readSamples(totals, start, start + ROLLUP_SECONDS - 1);
        return totals.found;
    }

    public int countLow(int series, long from, long to)
            throws NoSuchElementException, IllegalArgumentException {
        Series row = rowOf(series);
        refuseBadRange(from, to);
        row.readRollupsInside(totals, from, to);
        return totals.found;
    }

    public int countHigh(int series, long from, long to)
            throws NoSuchElementException, IllegalArgumentException {
        readTouchingRollups(series, from, to);
        return totals.found;
    }

    public int maximumHigh(int series, long from, long to)
            throws NoSuchElementException, IllegalArgumentException, IllegalStateException {
        readTouchingRollups(series, from, to);
        if (totals.found == 0) {
            throw new IllegalStateException("no rollup with samples touches the range");
        }
        return totals.greatest;
    }

    // Sketches

    public int quantile(int series, int percent)
            throws NoSuchElementException, IllegalArgumentException, IllegalStateException {
        Series row = rowForQuantile(series, percent);
        return row.sketch.leastReaching(row.targetOf(percent));
    }

    public int exactQuantile(int series, int percent)
            throws NoSuchElementException, IllegalArgumentException, IllegalStateException {
        Series row = rowForQuantile(series, percent);
        return row.leastReaching(row.targetOf(percent));
    }

    public int bound(int series) throws NoSuchElementException {
        return rowOf(series).sketch.bound;
    }

    public int held(int series) throws NoSuchElementException {
        return rowOf(series).sketch.heldValues();
    }

    public boolean isWithin(int series, int percent)
            throws NoSuchElementException, IllegalArgumentException, IllegalStateException {
        return rowForQuantile(series, percent).sketchIsWithin(percent);
    }

    // Alerts and joins

    public char setAlert(int series, int limit, int seconds)
            throws NoSuchElementException, IllegalArgumentException {
        Series row = rowOf(series);
        if (!isValue(limit)) {
            throw new IllegalArgumentException("the limit is not from -10000 to 10000");
        }
        if (seconds < 0 || seconds > MOST_SECONDS) {
            throw new IllegalArgumentException("the seconds are not from 0 to 600");
        }
        Alert alert = new Alert(limit, seconds);
        if (row.size > 0) {
            alert.see(now, row.newestValue());
        }
        row.alert = alert;
        return alert.stateAt(now);
    }

    public char removeAlert(int series) throws NoSuchElementException, IllegalStateException {
        Series row = rowOf(series);
        char state = stateOfAlert(row);
        row.alert = null;
        return state;
    }

    public char alertOf(int series) throws NoSuchElementException, IllegalStateException {
        return stateOfAlert(rowOf(series));
    }

    public int firing() {
        return firingAlerts();
    }

    public int joinCount(int one, int other) throws IllegalArgumentException {
        refuseBadNames(one, other);
        int pairs = 0;
        for (int host = 0; host < LABELS; host++) {
            if (rowWithSamples(one, host) != null && rowWithSamples(other, host) != null) {
                pairs++;
            }
        }
        return pairs;
    }

    public long joinSum(int one, int other) throws IllegalArgumentException {
        refuseBadNames(one, other);
        long sum = 0;
        for (int host = 0; host < LABELS; host++) {
            Series left = rowWithSamples(one, host);
            Series right = rowWithSamples(other, host);
            if (left != null && right != null) {
                sum += (long) left.newestValue() * right.newestValue();
            }
        }
        return sum;
    }

    public float firingShare() throws ArithmeticException {
        if (opened == 0) {
            throw new ArithmeticException("there are no series");
        }
        return (float) firingAlerts() / (float) opened;
    }

    public boolean isConsistent() {
        for (Series row : rows) {
            if (row != null && !row.holdsTogether()) {
                return false;
            }
        }
        return true;
    }

    // What the calls share

    private static boolean isLabel(int label) {
        return label >= 0 && label < LABELS;
    }

    private static boolean isValue(int value) {
        return value >= -MOST_VALUE && value <= MOST_VALUE;
    }

    private static void refuseBadNames(int one, int other) {
        if (!isLabel(one) || !isLabel(other)) {
            throw new IllegalArgumentException("a name is not from 0 to 9");
        }
    }

    private static void refuseBadRange(long from, long to) {
        if (from < 0 || from > to) {
            throw new IllegalArgumentException("the first time is less than 0 or greater than the last one");
        }
    }

    private static void refuseEmpty(Series row) {
        if (row.size == 0) {
            throw new IllegalStateException("the series has no samples");
        }
    }

    private Series rowOf(int series) {
        Series row = series >= 0 && series < rows.length ? rows[series] : null;
        if (row == null) {
            throw new NoSuchElementException("there is no such series");
        }
        return row;
    }

    private Series rowForQuantile(int series, int percent) {
        Series row = rowOf(series);
        if (percent < 1 || percent > 100) {
            throw new IllegalArgumentException("the percent are not from 1 to 100");
        }
        refuseEmpty(row);
        return row;
    }

    private int numberWith(int name, int host) {
        for (int number = 0; number < rows.length; number++) {
            Series row = rows[number];
            if (row != null && row.name == name && row.host == host) {
                return number;
            }
        }
        return -1;
    }

    private Series rowWithSamples(int name, int host) {
        int number = numberWith(name, host);
        Series row = number >= 0 && number < rows.length ? rows[number] : null;
        return row != null && row.size > 0 ? row : null;
    }

    private static Block blockOfSample(Series row, int index) {
        Block block = index >= 0 && index < row.size ? row.blockAt(index / BLOCK_SIZE) : null;
        if (block == null) {
            throw new IndexOutOfBoundsException("there is no such sample");
        }
        return block;
    }

    private void readBlocks(int series, long from, long to) {
        Series row = rowOf(series);
        refuseBadRange(from, to);
        row.readBlocks(totals, from, to);
    }

    private void readTouchingRollups(int series, long from, long to) {
        Series row = rowOf(series);
        refuseBadRange(from, to);
        row.readRollupsTouching(totals, from, to);
    }

    private char stateOfAlert(Series row) {
        Alert alert = row.alert;
        if (alert == null) {
            throw new IllegalStateException("the series has no alert");
        }
        return alert.stateAt(now);
    }

    private int firingAlerts() {
        int alerts = 0;
        for (Series row : rows) {
            if (row != null && row.alert != null && row.alert.stateAt(now) == FIRING) {
                alerts++;
            }
        }
        return alerts;
    }

    /** What was found in a range; one of them serves all calls, so that ranges make no objects. */
    private static final class Totals {
        private int found;
        private long total;
        private int greatest;

        private void clear() {
            found = 0;
            total = 0;
            greatest = -MOST_VALUE;
        }

        private void take(int value) {
            found++;
            total += value;
            greatest = Math.max(greatest, value);
        }
    }

    /** A series with its samples three times: as they came, in blocks, and in the order of value. */
    private static final class Series {
        private final int name;
        private final int host;
        private final long[] times;
        private final int[] values;
        private final int[] sorted;
        private final Block[] chain;
        private final Sketch sketch;
        private int size;
        private Alert alert;

        private Series(int name, int host) {
            this.name = name;
            this.host = host;
            times = new long[MOST_SAMPLES];
            values = new int[MOST_SAMPLES];
            sorted = new int[MOST_SAMPLES];
            chain = new Block[MOST_BLOCKS];
            sketch = new Sketch();
            size = 0;
            alert = null;
        }

        private boolean isFull() {
            return size >= MOST_SAMPLES;
        }

        // Time never goes back, so only the newest sample can have the present time.
        private boolean hasSampleAt(long time) {
            return size > 0 && size <= times.length && times[size - 1] == time;
        }

        private int newestValue() {
            return size > 0 && size <= values.length ? values[size - 1] : 0;
        }

        private void take(long time, int value) {
            if (isFull()) {
                return;
            }
            times[size] = time;
            values[size] = value;
            sortIn(value);
            toBlock(time, value);
            size++;
            sketch.take(value);
            if (alert != null) {
                alert.see(time, value);
            }
        }

        private void sortIn(int value) {
            int place = size;
            while (place > 0 && place < sorted.length && sorted[place - 1] > value) {
                sorted[place] = sorted[place - 1];
                place--;
            }
            if (place >= 0 && place < sorted.length) {
                sorted[place] = value;
            }
        }

        private void toBlock(long time, int value) {
            int place = size / BLOCK_SIZE;
            if (place >= chain.length) {
                return;
            }
            Block block = chain[place];
            if (block == null) {
                chain[place] = new Block(time, value);
            } else {
                block.append(time, value);
            }
        }

        private Block blockAt(int place) {
            return place >= 0 && place < chain.length ? chain[place] : null;
        }

        private int blockCount() {
            return (size + BLOCK_SIZE - 1) / BLOCK_SIZE;
        }

        private long blockBits() {
            long bits = 0;
            for (Block block : chain) {
                if (block != null) {
                    bits += block.bits;
                }
            }
            return bits;
        }

        private void readBlocks(Totals totals, long from, long to) {
            totals.clear();
            for (Block block : chain) {
                if (block != null) {
                    block.read(totals, from, to);
                }
            }
        }

        private void readSamples(Totals totals, long from, long to) {
            totals.clear();
            for (int k = 0; k < size && k < times.length && k < values.length; k++) {
                if (times[k] >= from && times[k] <= to) {
                    totals.take(values[k]);
                }
            }
        }

        private void readRollupsInside(Totals totals, long from, long to) {
            totals.clear();
            for (int k = 0; k < size && k < times.length && k < values.length; k++) {
                long start = rollupStart(times[k]);
                if (start >= from && start + ROLLUP_SECONDS - 1 <= to) {
                    totals.take(values[k]);
                }
            }
        }

        private void readRollupsTouching(Totals totals, long from, long to) {
            totals.clear();
            for (int k = 0; k < size && k < times.length && k < values.length; k++) {
                long start = rollupStart(times[k]);
                if (start + ROLLUP_SECONDS - 1 >= from && start <= to) {
                    totals.take(values[k]);
                }
            }
        }

        private static long rollupStart(long time) {
            return time - time % ROLLUP_SECONDS;
        }

        // Rounded up, so that the target is at least 1 as soon as there is a sample.
        private int targetOf(int percent) {
            return (percent * size + 99) / 100;
        }

        private int leastReaching(int target) {
            return target >= 1 && target <= sorted.length ? sorted[target - 1] : 0;
        }

        private boolean sketchIsWithin(int percent) {
            int target = targetOf(percent);
            int value = sketch.leastReaching(target);
            return samplesUpTo(value) >= target - sketch.bound
                    && samplesUpTo(value - 1) < target + sketch.bound;
        }

        private int samplesUpTo(int value) {
            int below = 0;
            while (below < size && below < sorted.length && sorted[below] <= value) {
                below++;
            }
            return below;
        }

        private boolean holdsTogether() {
            return blocksTellWhatCame()
                    && sketch.weightUpTo(MOST_VALUE) == size
                    && (size == 0 || sketchIsWithin(10) && sketchIsWithin(50) && sketchIsWithin(90));
        }

        private boolean blocksTellWhatCame() {
            for (int k = 0; k < size && k < times.length && k < values.length; k++) {
                Block block = blockAt(k / BLOCK_SIZE);
                int place = k % BLOCK_SIZE;
                if (block == null || block.timeOfSample(place) != times[k]
                        || block.valueOfSample(place) != values[k]) {
                    return false;
                }
            }
            return true;
        }
    }

    /** Up to 8 samples: the first one whole, of each further one the differences alone. */
    private static final class Block {
        private final long firstTime;
        private final int firstValue;
        // The steps of the first sample are 0, and so is the gap before it: then the second
        // sample's step is its gap alone, as the document wants, without a case of its own.
        private final long[] timeSteps;
        private final int[] valueSteps;
        private int size;
        private int bits;
        private long lastTime;
        private long lastGap;
        private int lastValue;

        private Block(long time, int value) {
            firstTime = time;
            firstValue = value;
            timeSteps = new long[BLOCK_SIZE];
            valueSteps = new int[BLOCK_SIZE];
            size = 1;
            bits = FIRST_SAMPLE_BITS;
            lastTime = time;
            lastGap = 0;
            lastValue = value;
        }

        private void append(long time, int value) {
            if (size >= BLOCK_SIZE) {
                return;
            }
            long gap = time - lastTime;
            timeSteps[size] = gap - lastGap;
            valueSteps[size] = value - lastValue;
            bits += timeStepBits(gap - lastGap) + valueStepBits(value - lastValue);
            size++;
            lastTime = time;
            lastGap = gap;
            lastValue = value;
        }

        private static int timeStepBits(long step) {
            if (step == 0) {
                return 1;
            }
            return step >= -7 && step <= 8 ? 6 : 15;
        }

        private static int valueStepBits(int step) {
            if (step == 0) {
                return 1;
            }
            return step >= -31 && step <= 32 ? 8 : 18;
        }

        private long timeOfSample(int place) {
            long time = firstTime;
            long gap = 0;
            for (int k = 0; k <= place && k < timeSteps.length; k++) {
                gap += timeSteps[k];
                time += gap;
            }
            return time;
        }

        private int valueOfSample(int place) {
            int value = firstValue;
            for (int k = 0; k <= place && k < valueSteps.length; k++) {
                value += valueSteps[k];
            }
            return value;
        }

        private void read(Totals totals, long from, long to) {
            long time = firstTime;
            long gap = 0;
            int value = firstValue;
            for (int k = 0; k < size && k < timeSteps.length && k < valueSteps.length; k++) {
                gap += timeSteps[k];
                time += gap;
                value += valueSteps[k];
                if (time >= from && time <= to) {
                    totals.take(value);
                }
            }
        }
    }

    /** Levels of values, each level's value standing for twice as many samples as the one's below. */
    private static final class Sketch {
        private final int[][] levels;
        private final int[] sizes;
        private final int[] halvings;
        private int bound;

        private Sketch() {
            levels = new int[LEVELS][LEVEL_SIZE];
            sizes = new int[LEVELS];
            halvings = new int[LEVELS];
            bound = 0;
        }

        private void take(int value) {
            put(0, value);
            // A halving can fill the level above, which is looked at next.
            for (int level = 0; level < LEVELS - 1; level++) {
                if (sizes[level] >= LEVEL_SIZE) {
                    halve(level);
                }
            }
        }

        private void put(int level, int value) {
            if (level < 0 || level >= LEVELS) {
                return;
            }
            int place = sizes[level];
            if (place >= 0 && place < LEVEL_SIZE) {
                levels[level][place] = value;
                sizes[level] = place + 1;
            }
        }

        private void halve(int level) {
            if (level < 0 || level >= LEVELS - 1) {
                return;
            }
            int[] full = levels[level];
            sort(full);
            for (int k = halvings[level] % 2 == 0 ? 1 : 0; k < full.length; k += 2) {
                put(level + 1, full[k]);
            }
            sizes[level] = 0;
            halvings[level]++;
            bound += 1 << level;
        }

        private static void sort(int[] row) {
            for (int end = 1; end < row.length; end++) {
                int value = row[end];
                int place = end;
                while (place > 0 && row[place - 1] > value) {
                    row[place] = row[place - 1];
                    place--;
                }
                row[place] = value;
            }
        }

        private int heldValues() {
            int held = 0;
            for (int size : sizes) {
                held += size;
            }
            return held;
        }

        private int weightUpTo(int value) {
            int weight = 0;
            for (int level = 0; level < LEVELS; level++) {
                int[] row = levels[level];
                for (int k = 0; k < sizes[level] && k < row.length; k++) {
                    if (row[k] <= value) {
                        weight += 1 << level;
                    }
                }
            }
            return weight;
        }

        private int leastReaching(int target) {
            int least = MOST_VALUE;
            for (int level = 0; level < LEVELS; level++) {
                int[] row = levels[level];
                for (int k = 0; k < sizes[level] && k < row.length; k++) {
                    if (row[k] < least && weightUpTo(row[k]) >= target) {
                        least = row[k];
                    }
                }
            }
            return least;
        }
    }

    /** A limit, how long it waits, and since when the latest value has been greater. */
    private static final class Alert {
        private final int limit;
        private final int seconds;
        private boolean on;
        private long since;

        private Alert(int limit, int seconds) {
            this.limit = limit;
            this.seconds = seconds;
            on = false;
            since = 0;
        }

        private void see(long time, int value) {
            if (value <= limit) {
                on = false;
            } else if (!on) {
                on = true;
                since = time;
            }
        }

        private char stateAt(long time) {
            if (!on) {
                return OFF;
            }
            return time - since >= seconds ? FIRING : PENDING;
        }
    }
}
