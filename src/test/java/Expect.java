import java.util.NoSuchElementException;
import java.util.Objects;
import java.util.Set;
import java.util.TreeSet;

/** Counts the calls that answer otherwise than is due, and prints them. */
final class Expect {
    static final Class<NoSuchElementException> NONE = NoSuchElementException.class;
    static final Class<IllegalArgumentException> BAD = IllegalArgumentException.class;
    static final Class<IllegalStateException> STATE = IllegalStateException.class;
    static final Class<IndexOutOfBoundsException> OUT = IndexOutOfBoundsException.class;
    static final Class<ArithmeticException> ARITHMETIC = ArithmeticException.class;

    /** Arguments that are refused wherever a small number is wanted. */
    static final int[] FAR_OFF = {Integer.MIN_VALUE, Integer.MIN_VALUE + 1, Integer.MAX_VALUE - 1, Integer.MAX_VALUE};

    interface Call {
        Object answer();
    }

    private static final Set<Integer> LOOKED_AT = new TreeSet<>();
    private static String about = "";
    private static int checked = 0;
    private static int wrong = 0;

    /** The checks that follow are about this promise, and are told under its name. */
    static void promise(int number, String call) {
        LOOKED_AT.add(number);
        about = "promise " + number + ", " + call + ": ";
    }

    static void same(String call, Object due, Call made) {
        String got = told(made);
        checked++;
        if (!Objects.equals(got, String.valueOf(due))) {
            wrong++;
            System.out.println(about + call + " answered " + got + ", due is " + due);
        }
    }

    static void refused(String call, Class<? extends RuntimeException> due, Call made) {
        same(call, "throws." + due.getSimpleName(), made);
    }

    /** The answer as a text; an exception counts as an answer too. */
    static String told(Call made) {
        try {
            return String.valueOf(made.answer());
        } catch (RuntimeException e) {
            return "throws." + e.getClass().getSimpleName();
        }
    }

    static void end() {
        System.out.println(checked + " answers looked at, " + wrong + " not as due");
        if (wrong != 0 || checked == 0) {
            System.exit(1);
        }
    }

    /** Ends a test that has to look at each of these promises. */
    static void endOfPromises(int first, int last) {
        about = "";
        for (int number = first; number <= last; number++) {
            boolean isLookedAt = LOOKED_AT.contains(number);
            same("promise " + number + " is looked at", true, () -> isLookedAt);
        }
        end();
    }
}
