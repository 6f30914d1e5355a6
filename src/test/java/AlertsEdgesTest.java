/** The boundary cases of the promises 31 to 38, sentence by sentence. */
public final class AlertsEdgesTest {
    private static final int[] NO_SERIES = {-1, 1, 9, 10, Integer.MIN_VALUE, Integer.MAX_VALUE};

    public static void main(String[] args) {
        setAlertRefused();
        setAlertLimits();
        setAlertSeconds();
        setAlertWithoutSamples();
        setAlertInPlaceOfAnEarlierOne();
        removeAlert();
        alertOfNone();
        alertOfLimits();
        alertOfSeconds();
        alertOfSince();
        firing();
        joinCount();
        joinSum();
        joinOfNames();
        firingShare();
        isConsistent();
        Expect.endOfPromises(31, 38);
    }

    private static void setAlertRefused() {
        Expect.promise(31, "setAlert");
        GaugeHall empty = new GaugeHall();
        Expect.refused("in an empty store", Expect.NONE, () -> empty.setAlert(0, 0, 0));
        GaugeHall hall = Halls.withValues(10000);
        for (int bad : NO_SERIES) {
            Expect.refused("of the series " + bad, Expect.NONE, () -> hall.setAlert(bad, 0, 0));
        }
        for (int bad : new int[] {-10001, 10001, Integer.MIN_VALUE, Integer.MAX_VALUE}) {
            Expect.refused("the limit " + bad, Expect.BAD, () -> hall.setAlert(0, bad, 0));
            Expect.refused("the limit " + bad + ", 600 seconds", Expect.BAD, () -> hall.setAlert(0, bad, 600));
            Expect.refused("the limit " + bad + ", 601 seconds", Expect.BAD, () -> hall.setAlert(0, bad, 601));
        }
        for (int bad : new int[] {-1, 601, Integer.MIN_VALUE, Integer.MAX_VALUE}) {
            Expect.refused(bad + " seconds", Expect.BAD, () -> hall.setAlert(0, 0, bad));
            Expect.refused(bad + " seconds, the least limit", Expect.BAD, () -> hall.setAlert(0, -10000, bad));
        }
        Expect.refused("no alert was set", Expect.STATE, () -> hall.alertOf(0));
        Expect.same("none fires", 0, () -> hall.firing());
        hall.setAlert(0, 9999, 1);
        hall.pass(1);
        Expect.refused("a limit out of range in place of an alert", Expect.BAD, () -> hall.setAlert(0, 10001, 5));
        Expect.refused("seconds out of range in place of an alert", Expect.BAD, () -> hall.setAlert(0, 0, -1));
        Expect.same("the earlier alert stays", 'f', () -> hall.alertOf(0));
    }

    private static void setAlertLimits() {
        Expect.promise(31, "setAlert");
        // The latest value, the limit, the state.
        int[][] due = {{-10000, -10000, 'o'}, {-9999, -10000, 'f'}, {10000, -10000, 'f'}, {10000, 10000, 'o'},
            {10000, 9999, 'f'}, {9999, 10000, 'o'}, {0, 0, 'o'}, {1, 0, 'f'}, {0, -1, 'f'}, {-1, 0, 'o'}};
        for (int[] row : due) {
            GaugeHall hall = Halls.withValues(row[0]);
            Expect.same("the limit " + row[1] + " with the value " + row[0], (char) row[2],
                    () -> hall.setAlert(0, row[1], 0));
        }
        GaugeHall fallen = Halls.withValues(10000, 5);
        Expect.same("an earlier value above the limit doesn't count", 'o', () -> fallen.setAlert(0, 5, 0));
        GaugeHall risen = Halls.withValues(5, 6);
        Expect.same("the latest value counts", 'f', () -> risen.setAlert(0, 5, 0));
    }

    private static void setAlertSeconds() {
        Expect.promise(31, "setAlert");
        GaugeHall hall = Halls.withValues(1);
        Expect.same("0 seconds fire at once", 'f', () -> hall.setAlert(0, 0, 0));
        Expect.same("1 second waits", 'p', () -> hall.setAlert(0, 0, 1));
        Expect.same("600 seconds wait", 'p', () -> hall.setAlert(0, 0, 600));
        hall.pass(599);
        Expect.same("599 of 600 seconds", 'p', () -> hall.alertOf(0));
        hall.pass(1);
        Expect.same("600 of 600 seconds", 'f', () -> hall.alertOf(0));
    }

    private static void setAlertWithoutSamples() {
        Expect.promise(31, "setAlert");
        GaugeHall hall = new GaugeHall();
        hall.open(0, 0);
        Expect.same("an empty series", 'o', () -> hall.setAlert(0, 0, 0));
        Expect.same("an empty series, the least limit", 'o', () -> hall.setAlert(0, -10000, 0));
        hall.pass(600);
        Expect.same("an empty series stays off", 'o', () -> hall.alertOf(0));
        hall.add(0, -10000);
        Expect.same("the least value is never greater than a limit", 'o', () -> hall.alertOf(0));
        hall.pass(1);
        hall.add(0, -9999);
        Expect.same("the least value but one is", 'f', () -> hall.alertOf(0));
    }

    private static void setAlertInPlaceOfAnEarlierOne() {
        Expect.promise(31, "setAlert");
        GaugeHall hall = Halls.withValues(5);
        hall.setAlert(0, 0, 2);
        hall.pass(1);
        Expect.same("one of two seconds", 'p', () -> hall.alertOf(0));
        Expect.same("set again, it is on since then", 'p', () -> hall.setAlert(0, 0, 2));
        hall.pass(1);
        Expect.same("one second since it was set again", 'p', () -> hall.alertOf(0));
        hall.pass(1);
        Expect.same("two seconds since it was set again", 'f', () -> hall.alertOf(0));
        Expect.same("the new limit counts alone", 'o', () -> hall.setAlert(0, 5, 0));
        Expect.same("there is one alert of the series", 'o', () -> hall.removeAlert(0));
        Expect.refused("there is none behind it", Expect.STATE, () -> hall.alertOf(0));
    }

    private static void removeAlert() {
        Expect.promise(32, "removeAlert");
        GaugeHall empty = new GaugeHall();
        Expect.refused("in an empty store", Expect.NONE, () -> empty.removeAlert(0));
        GaugeHall hall = Halls.withValues(5);
        for (int bad : NO_SERIES) {
            Expect.refused("of the series " + bad, Expect.NONE, () -> hall.removeAlert(bad));
        }
        Expect.refused("of a series without one", Expect.STATE, () -> hall.removeAlert(0));
        hall.open(0, 0);
        hall.setAlert(1, 0, 0);
        Expect.refused("of a series without one, beside one with", Expect.STATE, () -> hall.removeAlert(0));
        Expect.same("the other one stays", 'o', () -> hall.alertOf(1));
        hall.setAlert(0, 5, 0);
        Expect.same("one that is off", 'o', () -> hall.removeAlert(0));
        hall.setAlert(0, 4, 1);
        Expect.same("one that is pending", 'p', () -> hall.removeAlert(0));
        Expect.refused("a second time", Expect.STATE, () -> hall.removeAlert(0));
        hall.setAlert(0, 4, 1);
        hall.pass(1);
        Expect.same("one that is firing", 'f', () -> hall.removeAlert(0));
        Expect.same("none fires then", 0, () -> hall.firing());
        Expect.same("set anew, it waits anew", 'p', () -> hall.setAlert(0, 4, 1));
    }

    private static void alertOfNone() {
        Expect.promise(33, "alertOf");
        GaugeHall empty = new GaugeHall();
        Expect.refused("in an empty store", Expect.NONE, () -> empty.alertOf(0));
        GaugeHall hall = Halls.withValues(5);
        for (int bad : NO_SERIES) {
            Expect.refused("of the series " + bad, Expect.NONE, () -> hall.alertOf(bad));
        }
        Expect.refused("of a series without one", Expect.STATE, () -> hall.alertOf(0));
        hall.setAlert(0, 0, 0);
        Expect.same("of a series with one", 'f', () -> hall.alertOf(0));
        hall.removeAlert(0);
        Expect.refused("of a series whose alert is removed", Expect.STATE, () -> hall.alertOf(0));
    }

    private static void alertOfLimits() {
        Expect.promise(33, "alertOf");
        GaugeHall hall = new GaugeHall();
        hall.open(0, 0);
        hall.setAlert(0, 10, 0);
        int[] values = {10, 11, 10, 9, 10000, -10000, 11, 12, 11, 10};
        String due = "ofoofofffo";
        for (int k = 0; k < values.length; k++) {
            hall.add(0, values[k]);
            Expect.same("with the value " + values[k], due.charAt(k), () -> hall.alertOf(0));
            hall.pass(1);
        }
        hall.setAlert(0, 10000, 0);
        hall.add(0, 10000);
        Expect.same("no value is greater than the greatest limit", 'o', () -> hall.alertOf(0));
    }

    private static void alertOfSeconds() {
        Expect.promise(33, "alertOf");
        for (int seconds : new int[] {0, 1, 2, 599, 600}) {
            GaugeHall hall = new GaugeHall();
            hall.open(0, 0);
            hall.setAlert(0, 0, seconds);
            hall.pass(600);
            hall.add(0, 1);
            Expect.same("just on, of " + seconds + " seconds", seconds == 0 ? 'f' : 'p', () -> hall.alertOf(0));
            if (seconds > 1) {
                hall.pass(seconds - 1);
                Expect.same("a second short of " + seconds, 'p', () -> hall.alertOf(0));
            }
            hall.pass(1);
            Expect.same("on for its " + seconds + " seconds", 'f', () -> hall.alertOf(0));
            hall.pass(600);
            Expect.same("on for longer than its " + seconds + " seconds", 'f', () -> hall.alertOf(0));
        }
    }

    private static void alertOfSince() {
        Expect.promise(33, "alertOf");
        GaugeHall hall = Halls.withValues(50);
        hall.setAlert(0, 20, 10);
        hall.pass(5);
        hall.add(0, 21);
        hall.pass(5);
        Expect.same("a further value above doesn't wait anew", 'f', () -> hall.alertOf(0));
        hall.add(0, 20);
        Expect.same("off at the limit", 'o', () -> hall.alertOf(0));
        hall.pass(1);
        hall.add(0, 21);
        Expect.same("on again", 'p', () -> hall.alertOf(0));
        hall.pass(9);
        Expect.same("it waits anew after it was off", 'p', () -> hall.alertOf(0));
        Expect.refused("add a value out of range", Expect.BAD, () -> hall.add(0, -10001));
        hall.pass(1);
        Expect.same("a refused value does not turn it off", 'f', () -> hall.alertOf(0));
        hall.add(0, 22);
        Expect.refused("add a low value at the same time", Expect.STATE, () -> hall.add(0, 0));
        Expect.same("nor does a second one at the same time", 'f', () -> hall.alertOf(0));
        GaugeHall full = Halls.withValues(Halls.upTo(120));
        full.setAlert(0, 119, 1);
        full.pass(1);
        Expect.refused("add a low value to a full series", Expect.STATE, () -> full.add(0, 0));
        Expect.same("nor does one that a full series refuses", 'f', () -> full.alertOf(0));
    }

    private static void firing() {
        Expect.promise(34, "firing");
        GaugeHall empty = new GaugeHall();
        Expect.same("in an empty store", 0, () -> empty.firing());
        GaugeHall hall = Halls.ofTenSeries();
        Expect.same("without alerts", 0, () -> hall.firing());
        for (int series = 0; series < 10; series++) {
            hall.setAlert(series, 0, 1);
        }
        Expect.same("without samples", 0, () -> hall.firing());
        for (int series = 0; series < 10; series++) {
            hall.add(series, 1);
        }
        Expect.same("pending", 0, () -> hall.firing());
        hall.pass(1);
        Expect.same("all ten", 10, () -> hall.firing());
        hall.add(0, 0);
        Expect.same("but one that is off", 9, () -> hall.firing());
        hall.removeAlert(9);
        Expect.same("but one that is removed", 8, () -> hall.firing());
        hall.setAlert(8, 0, 1);
        Expect.same("but one that is pending", 7, () -> hall.firing());
        Expect.refused("set one out of range", Expect.BAD, () -> hall.setAlert(7, 0, 601));
        Expect.same("after a refusal", 7, () -> hall.firing());
    }

    private static void joinCount() {
        Expect.promise(35, "joinCount");
        GaugeHall hall = Halls.ofTenSeries();
        for (int bad : new int[] {-1, 10, Integer.MIN_VALUE, Integer.MAX_VALUE}) {
            Expect.refused("one name is " + bad, Expect.BAD, () -> hall.joinCount(bad, 9));
            Expect.refused("the other name is " + bad, Expect.BAD, () -> hall.joinCount(0, bad));
            Expect.refused("both names are " + bad, Expect.BAD, () -> hall.joinCount(bad, bad));
        }
        GaugeHall empty = new GaugeHall();
        Expect.same("in an empty store", 0, () -> empty.joinCount(0, 9));
        Expect.refused("a bad name in an empty store", Expect.BAD, () -> empty.joinCount(0, 10));
        for (int name = 0; name <= 9; name++) {
            int same = name;
            Expect.same("of empty series", 0, () -> hall.joinCount(same, same));
            hall.add(name, 1);
            Expect.same("the name " + name + " with itself", 1, () -> hall.joinCount(same, same));
            Expect.same("the name " + name + " with another", 0, () -> hall.joinCount(same, 9 - same));
        }
        GaugeHall most = new GaugeHall();
        for (int host = 0; host < 10; host++) {
            most.open(0, host);
            most.add(host, host);
        }
        Expect.same("the most pairs", 10, () -> most.joinCount(0, 0));
        Expect.same("a name without series", 0, () -> most.joinCount(0, 9));
        Expect.same("a name without series, first", 0, () -> most.joinCount(9, 0));
    }

    private static GaugeHall twoNames(int host) {
        GaugeHall hall = new GaugeHall();
        hall.open(0, host);
        hall.open(9, host);
        return hall;
    }

    private static void joinOfNames() {
        for (int host : new int[] {0, 9}) {
            Expect.promise(35, "joinCount");
            GaugeHall hall = twoNames(host);
            Expect.same("both series empty", 0, () -> hall.joinCount(0, 9));
            hall.add(0, 3);
            Expect.same("the other series empty", 0, () -> hall.joinCount(0, 9));
            Expect.same("one series empty", 0, () -> hall.joinCount(9, 0));
            hall.add(1, 0);
            Expect.same("both with samples", 1, () -> hall.joinCount(0, 9));
            Expect.same("both with samples, the other way round", 1, () -> hall.joinCount(9, 0));
            Expect.promise(36, "joinSum");
            Expect.same("a product of 0", 0L, () -> hall.joinSum(0, 9));
            hall.pass(1);
            hall.add(1, -7);
            Expect.same("the latest values", -21L, () -> hall.joinSum(0, 9));
            Expect.refused("add at the same time", Expect.STATE, () -> hall.add(1, 8));
            Expect.same("the latest values after a refusal", -21L, () -> hall.joinSum(9, 0));
            Expect.same("a name with itself", 49L, () -> hall.joinSum(9, 9));
        }
        GaugeHall apart = new GaugeHall();
        apart.open(0, 0);
        apart.open(9, 9);
        apart.add(0, 1);
        apart.add(1, 1);
        Expect.promise(35, "joinCount");
        Expect.same("different hosts", 0, () -> apart.joinCount(0, 9));
        Expect.promise(36, "joinSum");
        Expect.same("different hosts", 0L, () -> apart.joinSum(0, 9));
    }

    private static void joinSum() {
        Expect.promise(36, "joinSum");
        GaugeHall hall = Halls.ofTenSeries();
        for (int bad : new int[] {-1, 10, Integer.MIN_VALUE, Integer.MAX_VALUE}) {
            Expect.refused("one name is " + bad, Expect.BAD, () -> hall.joinSum(bad, 9));
            Expect.refused("the other name is " + bad, Expect.BAD, () -> hall.joinSum(0, bad));
            Expect.refused("both names are " + bad, Expect.BAD, () -> hall.joinSum(bad, bad));
        }
        GaugeHall empty = new GaugeHall();
        Expect.same("in an empty store", 0L, () -> empty.joinSum(0, 9));
        Expect.refused("a bad name in an empty store", Expect.BAD, () -> empty.joinSum(-1, 0));
        Expect.same("of empty series", 0L, () -> hall.joinSum(9, 9));
        GaugeHall greatest = new GaugeHall();
        GaugeHall least = new GaugeHall();
        for (int k = 0; k < 10; k++) {
            greatest.open(9, k);
            greatest.add(k, k % 2 == 0 ? 10000 : -10000);
            least.open(k % 2, k / 2);
            least.add(k, k % 2 == 0 ? 10000 : -10000);
        }
        Expect.same("the greatest sum", 1000000000L, () -> greatest.joinSum(9, 9));
        Expect.same("the least sum", -500000000L, () -> least.joinSum(0, 1));
        Expect.same("the least sum, the other way round", -500000000L, () -> least.joinSum(1, 0));
    }

    private static void firingShare() {
        Expect.promise(37, "firingShare");
        GaugeHall hall = new GaugeHall();
        Expect.refused("in an empty store", Expect.ARITHMETIC, () -> hall.firingShare());
        Expect.refused("open out of range", Expect.BAD, () -> hall.open(10, 0));
        Expect.refused("after a refusal", Expect.ARITHMETIC, () -> hall.firingShare());
        for (int k = 0; k < 10; k++) {
            int alone = k;
            hall.open(1, k);
            Expect.same((k == 0 ? "none of " : "one of ") + (k + 1), k == 0 ? 0f : (float) 1 / (float) (k + 1),
                    () -> hall.firingShare());
            if (k == 0) {
                hall.add(0, 1);
                hall.setAlert(0, 0, 0);
                Expect.same("the only one", 1f, () -> hall.firingShare());
            } else {
                Expect.same("an alert that is off", 'o', () -> hall.setAlert(alone, 0, 0));
            }
        }
        Expect.same("one of ten", (float) 1 / (float) 10, () -> hall.firingShare());
        for (int k = 1; k < 10; k++) {
            hall.add(k, 1);
            float due = (float) (k + 1) / (float) 10;
            Expect.same((k + 1) + " of ten", due, () -> hall.firingShare());
        }
    }

    private static void isConsistent() {
        Expect.promise(38, "isConsistent");
        GaugeHall empty = new GaugeHall();
        Expect.same("an empty store", true, () -> empty.isConsistent());
        GaugeHall ten = Halls.ofTenSeries();
        Expect.same("ten empty series", true, () -> ten.isConsistent());
        ten.add(9, -10000);
        Expect.same("one sample in the last series", true, () -> ten.isConsistent());
        for (int[] row : new int[][] {{1, 0}, {7, 0}, {8, 0}, {9, 1}, {16, 0}, {119, 1}, {120, -1}}) {
            int[] values = new int[row[0]];
            for (int k = 0; k < values.length; k++) {
                values[k] = k % 2 == 0 ? 10000 * row[1] : -10000 * row[1];
            }
            GaugeHall hall = Halls.withValues(values);
            Expect.same(row[0] + " samples", true, () -> hall.isConsistent());
        }
        GaugeHall full = Halls.ofTenSeries();
        for (int k = 0; k < 40; k++) {
            for (int series = 0; series < 10; series++) {
                full.add(series, (k * (series + 1) * 997) % 20001 - 10000);
            }
            full.pass(600);
        }
        Expect.same("ten series with samples", true, () -> full.isConsistent());
        Expect.refused("add to no series", Expect.NONE, () -> full.add(10, 0));
        Expect.same("after a refusal", true, () -> full.isConsistent());
    }
}
