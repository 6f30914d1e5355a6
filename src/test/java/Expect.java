import java.util.Objects;

/** Counts the calls that answer otherwise than is due, and prints them. */
final class Expect {
    interface Call {
        Object answer();
    }

    private static int checked = 0;
    private static int wrong = 0;

    static void same(String call, Object due, Call made) {
        String got = told(made);
        checked++;
        if (!Objects.equals(got, String.valueOf(due))) {
            wrong++;
            System.out.println(call + " answered " + got + ", due is " + due);
        }
    }

    static void refused(String call, Class<? extends RuntimeException> due, Call made) {
        same(call, "throws." + due.getSimpleName(), made);
    }

    /** The answer as a text; an exception counts as an answer too. */
    static String told(Call made) {
        try {
            return String.valueOf(made.answer());
        } catch (RuntimeException e) {
            return "throws." + e.getClass().getSimpleName();
        }
    }

    static void end() {
        System.out.println(checked + " answers looked at, " + wrong + " not as due");
        if (wrong != 0 || checked == 0) {
            System.exit(1);
        }
    }
}
