import java.util.NoSuchElementException;

/** Promises 31 to 38: alerts, joins and consistency. */
public final class AlertsAndJoinsTest {
    private static final Class<IllegalArgumentException> BAD = IllegalArgumentException.class;
    private static final Class<IllegalStateException> STATE = IllegalStateException.class;
    private static final Class<NoSuchElementException> NONE = NoSuchElementException.class;

    public static void main(String[] args) {
        waiting();
        settingLate();
        settingAgain();
        removing();
        wrongAlerts();
        firing();
        joins();
        wrongJoins();
        consistency();
        Expect.end();
    }

    private static void state(GaugeHall hall, String when, char due) {
        Expect.same("alertOf(0) " + when, due, () -> hall.alertOf(0));
    }

    private static void waiting() {
        GaugeHall hall = new GaugeHall();
        hall.open(0, 0);
        Expect.same("setAlert without samples, below 0", 'o', () -> hall.setAlert(0, -10000, 0));
        Expect.same("setAlert without samples", 'o', () -> hall.setAlert(0, 50, 10));
        hall.pass(30);
        state(hall, "without samples, later", 'o');
        hall.add(0, 50);
        hall.pass(30);
        state(hall, "at the limit", 'o');
        hall.add(0, 51);
        state(hall, "just above the limit", 'p');
        hall.pass(9);
        state(hall, "after 9 of 10 seconds", 'p');
        hall.add(0, 9999);
        state(hall, "with a further value above", 'p');
        hall.pass(1);
        state(hall, "after 10 of 10 seconds", 'f');
        hall.add(0, 60);
        state(hall, "still above", 'f');
        hall.pass(1);
        hall.add(0, 50);
        state(hall, "at the limit again", 'o');
        hall.pass(600);
        state(hall, "long at the limit", 'o');
        hall.add(0, 51);
        state(hall, "above once more", 'p');
        hall.pass(9);
        state(hall, "above once more, 9 seconds", 'p');
        hall.pass(1);
        state(hall, "above once more, 10 seconds", 'f');
    }

    private static void settingLate() {
        GaugeHall hall = new GaugeHall();
        hall.open(0, 0);
        hall.add(0, 100);
        hall.pass(600);
        Expect.same("setAlert above the limit", 'p', () -> hall.setAlert(0, 99, 5));
        hall.pass(4);
        state(hall, "4 seconds since it was set", 'p');
        hall.pass(1);
        state(hall, "5 seconds since it was set", 'f');
        Expect.same("setAlert at the limit", 'o', () -> hall.setAlert(0, 100, 0));
        Expect.same("setAlert with no seconds", 'f', () -> hall.setAlert(0, 99, 0));
        Expect.same("setAlert with a second", 'p', () -> hall.setAlert(0, 99, 1));
    }

    private static void settingAgain() {
        GaugeHall hall = new GaugeHall();
        hall.open(0, 0);
        hall.setAlert(0, 0, 10);
        hall.add(0, 1);
        hall.pass(10);
        state(hall, "before it is set again", 'f');
        Expect.same("setAlert again waits from now on", 'p', () -> hall.setAlert(0, 0, 10));
        hall.pass(10);
        state(hall, "10 seconds since it was set again", 'f');
        Expect.refused("setAlert refused", BAD, () -> hall.setAlert(0, 0, 601));
        state(hall, "after a refusal", 'f');
        Expect.same("setAlert with a higher limit", 'o', () -> hall.setAlert(0, 10000, 600));
        Expect.same("setAlert with the least limit", 'p', () -> hall.setAlert(0, -10000, 600));
        hall.pass(599);
        state(hall, "after 599 of 600 seconds", 'p');
        hall.pass(1);
        state(hall, "after 600 of 600 seconds", 'f');
    }

    private static void removing() {
        GaugeHall hall = new GaugeHall();
        hall.open(0, 0);
        Expect.refused("removeAlert without one", STATE, () -> hall.removeAlert(0));
        Expect.refused("alertOf without one", STATE, () -> hall.alertOf(0));
        hall.setAlert(0, 5, 1);
        Expect.same("removeAlert that is off", 'o', () -> hall.removeAlert(0));
        Expect.refused("alertOf a removed one", STATE, () -> hall.alertOf(0));
        Expect.refused("removeAlert a removed one", STATE, () -> hall.removeAlert(0));
        hall.add(0, 6);
        hall.setAlert(0, 5, 1);
        Expect.same("removeAlert that is pending", 'p', () -> hall.removeAlert(0));
        hall.setAlert(0, 5, 1);
        hall.pass(1);
        Expect.same("removeAlert that is firing", 'f', () -> hall.removeAlert(0));
        Expect.same("firing without alerts", 0, () -> hall.firing());
        Expect.same("setAlert after all", 'p', () -> hall.setAlert(0, 5, 1));
    }

    private static void wrongAlerts() {
        GaugeHall hall = new GaugeHall();
        hall.open(0, 0);
        Expect.refused("a limit too high", BAD, () -> hall.setAlert(0, 10001, 0));
        Expect.refused("a limit too low", BAD, () -> hall.setAlert(0, -10001, 0));
        Expect.refused("seconds too few", BAD, () -> hall.setAlert(0, 0, -1));
        Expect.refused("seconds too many", BAD, () -> hall.setAlert(0, 0, 601));
        Expect.refused("no alert after refusals", STATE, () -> hall.alertOf(0));
        for (int bad : new int[] {-1, 1, 10, Integer.MIN_VALUE, Integer.MAX_VALUE}) {
            Expect.refused("setAlert(" + bad + ", 0, 0)", NONE, () -> hall.setAlert(bad, 0, 0));
            Expect.refused("setAlert(" + bad + ", 10001, 0)", NONE, () -> hall.setAlert(bad, 10001, 0));
            Expect.refused("removeAlert(" + bad + ")", NONE, () -> hall.removeAlert(bad));
            Expect.refused("alertOf(" + bad + ")", NONE, () -> hall.alertOf(bad));
        }
    }

    private static void firing() {
        GaugeHall hall = new GaugeHall();
        Expect.refused("firingShare without series", ArithmeticException.class, () -> hall.firingShare());
        hall.open(0, 0);
        hall.open(0, 1);
        hall.open(1, 0);
        Expect.same("firing without alerts", 0, () -> hall.firing());
        Expect.same("firingShare without alerts", 0f, () -> hall.firingShare());
        for (int series = 0; series < 3; series++) {
            hall.add(series, 1);
            hall.setAlert(series, 0, series * 5);
        }
        Expect.same("firing at once", 1, () -> hall.firing());
        Expect.same("a third fires", 1f / 3f, () -> hall.firingShare());
        hall.pass(5);
        Expect.same("firing after 5 seconds", 2, () -> hall.firing());
        Expect.same("two thirds fire", 2f / 3f, () -> hall.firingShare());
        hall.pass(5);
        Expect.same("firing after 10 seconds", 3, () -> hall.firing());
        Expect.same("all fire", 1f, () -> hall.firingShare());
        hall.add(1, 0);
        Expect.same("firing with one off", 2, () -> hall.firing());
        hall.open(5, 5);
        Expect.same("half of four fire", 0.5f, () -> hall.firingShare());
    }

    private static void join(GaugeHall hall, int one, int other, int count, long sum) {
        Expect.same("joinCount(" + one + ", " + other + ")", count, () -> hall.joinCount(one, other));
        Expect.same("joinSum(" + one + ", " + other + ")", sum, () -> hall.joinSum(one, other));
    }

    private static void joins() {
        GaugeHall hall = new GaugeHall();
        int[][] labels = {{0, 0}, {9, 0}, {0, 9}, {9, 9}, {0, 4}, {9, 5}, {0, 6}, {9, 6}};
        for (int[] pair : labels) {
            hall.open(pair[0], pair[1]);
        }
        join(hall, 0, 9, 0, 0);
        int[] values = {10000, -10000, 3, 7, 11, 13, 17};
        for (int series = 0; series < values.length; series++) {
            hall.add(series, values[series]);
        }
        // The host 6 has no samples with the name 9; the hosts 4 and 5 have one name alone.
        join(hall, 0, 9, 2, -100000000L + 21);
        join(hall, 9, 0, 2, -100000000L + 21);
        join(hall, 0, 0, 4, 100000000L + 9 + 121 + 289);
        join(hall, 9, 9, 3, 100000000L + 49 + 169);
        join(hall, 0, 1, 0, 0);
        join(hall, 1, 1, 0, 0);
        hall.pass(1);
        hall.add(0, -1);
        join(hall, 0, 9, 2, 10000 + 21);
        manyPairs();
    }

    private static void manyPairs() {
        GaugeHall hall = new GaugeHall();
        for (int host = 0; host < 10; host++) {
            hall.open(3, host);
            hall.add(host, -10000);
        }
        join(hall, 3, 3, 10, 1000000000L);
        join(hall, 3, 4, 0, 0);
        GaugeHall five = new GaugeHall();
        for (int host = 5; host < 10; host++) {
            five.open(1, host);
            five.open(2, host);
            five.add(2 * (host - 5), 10000);
            five.add(2 * (host - 5) + 1, -10000);
        }
        join(five, 1, 2, 5, -500000000L);
    }

    private static void wrongJoins() {
        GaugeHall hall = new GaugeHall();
        join(hall, 0, 9, 0, 0);
        for (int bad : new int[] {-1, 10, Integer.MIN_VALUE, Integer.MAX_VALUE}) {
            Expect.refused("joinCount(" + bad + ", 0)", BAD, () -> hall.joinCount(bad, 0));
            Expect.refused("joinCount(0, " + bad + ")", BAD, () -> hall.joinCount(0, bad));
            Expect.refused("joinSum(" + bad + ", 0)", BAD, () -> hall.joinSum(bad, 0));
            Expect.refused("joinSum(0, " + bad + ")", BAD, () -> hall.joinSum(0, bad));
        }
    }

    private static void consistency() {
        GaugeHall hall = new GaugeHall();
        Expect.same("isConsistent without series", true, () -> hall.isConsistent());
        hall.open(0, 0);
        hall.open(0, 1);
        Expect.same("isConsistent without samples", true, () -> hall.isConsistent());
        for (int k = 0; k < 120; k++) {
            hall.add(0, (k * 7919) % 20001 - 10000);
            hall.pass(1 + (k * 131) % 600);
            Expect.same("isConsistent with " + (k + 1) + " samples", true, () -> hall.isConsistent());
        }
    }
}
