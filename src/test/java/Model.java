import java.util.ArrayList;
import java.util.Collections;
import java.util.List;
import java.util.NoSuchElementException;

/** The document once more, as plainly as its words go, with the Java library; only tests use it. */
final class Model {
    private static final class Row {
        private final int name;
        private final int host;
        private final List<Long> times = new ArrayList<>();
        private final List<Integer> values = new ArrayList<>();
        private final List<List<Integer>> levels = new ArrayList<>();
        private final List<Integer> halved = new ArrayList<>();
        private int bound = 0;
        private int[] alert = null;
        private long aboveSince = -1;

        private Row(int name, int host) {
            this.name = name;
            this.host = host;
        }

        private int newest() {
            return values.get(values.size() - 1);
        }
    }

    private final List<Row> rows = new ArrayList<>();
    private long now = 0;

    int open(int name, int host) {
        if (name < 0 || name > 9 || host < 0 || host > 9) {
            throw new IllegalArgumentException();
        }
        if (rows.size() == 10 || numberOf(name, host) >= 0) {
            throw new IllegalStateException();
        }
        rows.add(new Row(name, host));
        return rows.size() - 1;
    }

    long pass(int seconds) {
        if (seconds < 1 || seconds > 600) {
            throw new IllegalArgumentException();
        }
        return now += seconds;
    }

    int add(int series, int value) {
        Row row = row(series);
        if (Math.abs((long) value) > 10000) {
            throw new IllegalArgumentException();
        }
        if (row.times.size() == 120 || row.times.contains(now)) {
            throw new IllegalStateException();
        }
        row.times.add(now);
        row.values.add(value);
        toLevel(row, 0, value);
        if (row.alert != null) {
            boolean above = value > row.alert[0];
            row.aboveSince = !above ? -1 : row.aboveSince < 0 ? now : row.aboveSince;
        }
        return row.values.size();
    }

    long time() {
        return now;
    }

    int seriesCount() {
        return rows.size();
    }

    int find(int name, int host) {
        if (numberOf(name, host) < 0) {
            throw new NoSuchElementException();
        }
        return numberOf(name, host);
    }

    int nameOf(int series) {
        return row(series).name;
    }

    int hostOf(int series) {
        return row(series).host;
    }

    int samples(int series) {
        return row(series).values.size();
    }

    int latest(int series) {
        Row row = row(series);
        wantSamples(row.values);
        return row.newest();
    }

    int blocks(int series) {
        return (int) Math.ceil(row(series).values.size() / 8.0);
    }

    int bitsOf(int series, int block) {
        Row row = row(series);
        if (block < 0 || block >= blocks(series)) {
            throw new IndexOutOfBoundsException();
        }
        int bits = 64;
        for (int k = 8 * block + 1; k < Math.min(8 * block + 8, row.values.size()); k++) {
            long gap = row.times.get(k) - row.times.get(k - 1);
            long before = k == 8 * block + 1 ? 0 : row.times.get(k - 1) - row.times.get(k - 2);
            long step = gap - before;
            bits += step == 0 ? 1 : step > -8 && step < 9 ? 6 : 15;
            int change = row.values.get(k) - row.values.get(k - 1);
            bits += change == 0 ? 1 : change > -32 && change < 33 ? 8 : 18;
        }
        return bits;
    }

    long timeAt(int series, int index) {
        return row(series).times.get(index);
    }

    int valueAt(int series, int index) {
        return row(series).values.get(index);
    }

    long allBits() {
        long bits = 0;
        for (int series = 0; series < rows.size(); series++) {
            for (int block = 0; block < blocks(series); block++) {
                bits += bitsOf(series, block);
            }
        }
        return bits;
    }

    int count(int series, long from, long to) {
        return range(series, from, to).size();
    }

    long sum(int series, long from, long to) {
        return range(series, from, to).stream().mapToLong(Integer::longValue).sum();
    }

    int maximum(int series, long from, long to) {
        List<Integer> found = range(series, from, to);
        wantSamples(found);
        return Collections.max(found);
    }

    double mean(int series, long from, long to) {
        List<Integer> found = range(series, from, to);
        if (found.isEmpty()) {
            throw new ArithmeticException();
        }
        return (double) sum(series, from, to) / (double) found.size();
    }

    int rollupCount(int series, int index) {
        row(series);
        if (index < 0) {
            throw new IllegalArgumentException();
        }
        return range(series, 10L * index, 10L * index + 9).size();
    }

    int countLow(int series, long from, long to) {
        return rollups(series, from, to, 10).size();
    }

    int countHigh(int series, long from, long to) {
        return rollups(series, from, to, 1).size();
    }

    int maximumHigh(int series, long from, long to) {
        List<Integer> found = rollups(series, from, to, 1);
        wantSamples(found);
        return Collections.max(found);
    }

    int quantile(int series, int percent) {
        Row row = quantileRow(series, percent);
        List<Integer> stood = new ArrayList<>();
        for (int level = 0; level < row.levels.size(); level++) {
            for (int value : row.levels.get(level)) {
                stood.addAll(Collections.nCopies(1 << level, value));
            }
        }
        Collections.sort(stood);
        return stood.get(target(row, percent) - 1);
    }

    int exactQuantile(int series, int percent) {
        Row row = quantileRow(series, percent);
        List<Integer> sorted = new ArrayList<>(row.values);
        Collections.sort(sorted);
        return sorted.get(target(row, percent) - 1);
    }

    int bound(int series) {
        return row(series).bound;
    }

    int held(int series) {
        return row(series).levels.stream().mapToInt(List::size).sum();
    }

    boolean isWithin(int series, int percent) {
        int value = quantile(series, percent);
        Row row = row(series);
        long notGreater = row.values.stream().filter(v -> v <= value).count();
        long less = row.values.stream().filter(v -> v < value).count();
        return notGreater >= target(row, percent) - row.bound && less < target(row, percent) + row.bound;
    }

    char setAlert(int series, int limit, int seconds) {
        Row row = row(series);
        if (Math.abs((long) limit) > 10000 || seconds < 0 || seconds > 600) {
            throw new IllegalArgumentException();
        }
        row.alert = new int[] {limit, seconds};
        row.aboveSince = !row.values.isEmpty() && row.newest() > limit ? now : -1;
        return state(row);
    }

    char removeAlert(int series) {
        Row row = row(series);
        char state = state(row);
        row.alert = null;
        return state;
    }

    char alertOf(int series) {
        return state(row(series));
    }

    int firing() {
        return (int) rows.stream().filter(row -> row.alert != null && state(row) == 'f').count();
    }

    int joinCount(int one, int other) {
        return products(one, other).size();
    }

    long joinSum(int one, int other) {
        return products(one, other).stream().mapToLong(Long::longValue).sum();
    }

    float firingShare() {
        if (rows.isEmpty()) {
            throw new ArithmeticException();
        }
        return (float) firing() / (float) rows.size();
    }

    private Row row(int series) {
        if (series < 0 || series >= rows.size()) {
            throw new NoSuchElementException();
        }
        return rows.get(series);
    }

    private static void wantSamples(List<Integer> values) {
        if (values.isEmpty()) {
            throw new IllegalStateException();
        }
    }

    private int numberOf(int name, int host) {
        for (Row row : rows) {
            if (row.name == name && row.host == host) {
                return rows.indexOf(row);
            }
        }
        return -1;
    }

    private static void toLevel(Row row, int level, int value) {
        if (row.levels.size() == level) {
            row.levels.add(new ArrayList<>());
            row.halved.add(0);
        }
        List<Integer> values = row.levels.get(level);
        values.add(value);
        if (values.size() < 8) {
            return;
        }
        List<Integer> sorted = new ArrayList<>(values);
        Collections.sort(sorted);
        values.clear();
        row.bound += 1 << level;
        int times = row.halved.get(level) + 1;
        row.halved.set(level, times);
        for (int place = 1; place <= 8; place++) {
            boolean isEven = place % 2 == 0;
            boolean isOddTime = times % 2 == 1;
            if (isEven == isOddTime) {
                toLevel(row, level + 1, sorted.get(place - 1));
            }
        }
    }

    private List<Integer> range(int series, long from, long to) {
        return samplesWith(series, from, to, 0);
    }

    private List<Integer> rollups(int series, long from, long to, int least) {
        return samplesWith(series, from, to, least);
    }

    // The samples that are in the range, or (with a least above 0) whose rollup has that many times in it.
    private List<Integer> samplesWith(int series, long from, long to, int least) {
        Row row = row(series);
        if (from < 0 || from > to) {
            throw new IllegalArgumentException();
        }
        List<Integer> found = new ArrayList<>();
        for (int k = 0; k < row.values.size(); k++) {
            long time = row.times.get(k);
            boolean isIn = least == 0 ? from <= time && time <= to : timesIn(time / 10, from, to) >= least;
            if (isIn) {
                found.add(row.values.get(k));
            }
        }
        return found;
    }

    private static int timesIn(long rollup, long from, long to) {
        int times = 0;
        for (long time = 10 * rollup; time < 10 * rollup + 10; time++) {
            times += from <= time && time <= to ? 1 : 0;
        }
        return times;
    }

    private Row quantileRow(int series, int percent) {
        Row row = row(series);
        if (percent < 1 || percent > 100) {
            throw new IllegalArgumentException();
        }
        wantSamples(row.values);
        return row;
    }

    private static int target(Row row, int percent) {
        int target = 0;
        while (100 * target < percent * row.values.size()) {
            target++;
        }
        return target;
    }

    private char state(Row row) {
        if (row.alert == null) {
            throw new IllegalStateException();
        }
        if (row.aboveSince < 0) {
            return 'o';
        }
        return now - row.aboveSince >= row.alert[1] ? 'f' : 'p';
    }

    private List<Long> products(int one, int other) {
        if (one < 0 || one > 9 || other < 0 || other > 9) {
            throw new IllegalArgumentException();
        }
        List<Long> products = new ArrayList<>();
        for (Row left : rows) {
            for (Row right : rows) {
                boolean isPair = left.name == one && right.name == other && left.host == right.host;
                if (isPair && !left.values.isEmpty() && !right.values.isEmpty()) {
                    products.add((long) left.newest() * right.newest());
                }
            }
        }
        return products;
    }
}
