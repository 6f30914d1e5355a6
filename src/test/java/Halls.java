/** Makes the halls that several tests start from. */
final class Halls {
    /** The series 0, with the name 3 and the host 4, and these values, a second apart from the time 0 on. */
    static GaugeHall withValues(int... values) {
        GaugeHall hall = new GaugeHall();
        hall.open(3, 4);
        for (int value : values) {
            hall.add(0, value);
            hall.pass(1);
        }
        return hall;
    }

    /** The series 0, and a sample at each of these times, which must ascend; time stands at the last one. */
    static GaugeHall withTimes(long[] times, int[] values) {
        GaugeHall hall = new GaugeHall();
        hall.open(3, 4);
        for (int k = 0; k < times.length; k++) {
            passUntil(hall, times[k]);
            hall.add(0, values[k]);
        }
        return hall;
    }

    /** Ten series without samples: the number k has the name k and the host 9 - k. */
    static GaugeHall ofTenSeries() {
        GaugeHall hall = new GaugeHall();
        for (int k = 0; k < 10; k++) {
            hall.open(k, 9 - k);
        }
        return hall;
    }

    static void passUntil(GaugeHall hall, long time) {
        long left = time - hall.time();
        while (left > 0) {
            int step = (int) Math.min(600, left);
            hall.pass(step);
            left -= step;
        }
    }

    /** The values 1 to last. */
    static int[] upTo(int last) {
        int[] values = new int[last];
        for (int k = 0; k < last; k++) {
            values[k] = k + 1;
        }
        return values;
    }
}
