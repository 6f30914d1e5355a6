import java.lang.reflect.Constructor;
import java.lang.reflect.Executable;
import java.lang.reflect.Field;
import java.lang.reflect.Method;
import java.lang.reflect.Modifier;
import java.util.HashSet;
import java.util.Set;
import java.util.TreeSet;

/** The class has the document's face and nothing else, as the rules 1, 5 and 11 of LANGUAGE.md want. */
public final class FaceTest {
    private static final String NONE = "NoSuchElementException";
    private static final String BAD = "IllegalArgumentException";
    private static final String STATE = "IllegalStateException";
    private static final String OUT = "IndexOutOfBoundsException";
    private static final String ARITHMETIC = "ArithmeticException";

    private static final Set<String> FACE = new TreeSet<>();

    public static void main(String[] args) {
        writeFace();
        Class<?> hall = GaugeHall.class;
        Expect.same("public and final", true,
                () -> Modifier.isPublic(hall.getModifiers()) && Modifier.isFinal(hall.getModifiers()));
        Expect.same("the face", FACE, () -> openMembers(hall));
        Expect.same("private names that are public too", new TreeSet<String>(), () -> namesMetTwice(hall));
        Expect.same("at most 12 classes", true, () -> hall.getDeclaredClasses().length < 12);
        looksAtClass(hall);
        for (Class<?> inside : hall.getDeclaredClasses()) {
            Expect.same(inside.getSimpleName() + " is not public", false,
                    () -> Modifier.isPublic(inside.getModifiers()) || Modifier.isProtected(inside.getModifiers()));
            looksAtClass(inside);
        }
        Expect.end();
    }

    private static void face(String member, String... thrown) {
        FACE.add(member + " throws " + String.join(", ", thrown));
    }

    private static void writeFace() {
        face("GaugeHall()");
        face("int open(int, int)", BAD, STATE);
        face("long pass(int)", BAD);
        face("int add(int, int)", NONE, BAD, STATE);
        face("long time()");
        face("int seriesCount()");
        face("int find(int, int)", NONE);
        for (String name : new String[] {"nameOf", "hostOf", "samples", "blocks", "bound", "held"}) {
            face("int " + name + "(int)", NONE);
        }
        face("int latest(int)", NONE, STATE);
        face("int bitsOf(int, int)", NONE, OUT);
        face("long timeAt(int, int)", NONE, OUT);
        face("int valueAt(int, int)", NONE, OUT);
        face("long allBits()");
        face("int count(int, long, long)", NONE, BAD);
        face("long sum(int, long, long)", NONE, BAD);
        face("long sumByReading(int, long, long)", NONE, BAD);
        face("int maximum(int, long, long)", NONE, BAD, STATE);
        face("double mean(int, long, long)", NONE, BAD, ARITHMETIC);
        face("int rollupCount(int, int)", NONE, BAD);
        face("int countLow(int, long, long)", NONE, BAD);
        face("int countHigh(int, long, long)", NONE, BAD);
        face("int maximumHigh(int, long, long)", NONE, BAD, STATE);
        face("int quantile(int, int)", NONE, BAD, STATE);
        face("int exactQuantile(int, int)", NONE, BAD, STATE);
        face("boolean isWithin(int, int)", NONE, BAD, STATE);
        face("char setAlert(int, int, int)", NONE, BAD);
        face("char removeAlert(int)", NONE, STATE);
        face("char alertOf(int)", NONE, STATE);
        face("int firing()");
        face("int joinCount(int, int)", BAD);
        face("long joinSum(int, int)", BAD);
        face("float firingShare()", ARITHMETIC);
        face("boolean isConsistent()");
    }

    private static Set<String> openMembers(Class<?> hall) {
        Set<String> members = new TreeSet<>();
        for (Constructor<?> made : hall.getDeclaredConstructors()) {
            if (!Modifier.isPrivate(made.getModifiers())) {
                members.add(hall.getSimpleName() + told(made));
            }
        }
        for (Method method : hall.getDeclaredMethods()) {
            if (!Modifier.isPrivate(method.getModifiers())) {
                members.add(method.getReturnType().getSimpleName() + " " + method.getName() + told(method));
            }
        }
        for (Field field : hall.getDeclaredFields()) {
            if (!Modifier.isPrivate(field.getModifiers())) {
                members.add(field.getName());
            }
        }
        return members;
    }

    private static String told(Executable member) {
        return "(" + names(member.getParameterTypes()) + ") throws " + names(member.getExceptionTypes());
    }

    private static String names(Class<?>[] types) {
        StringBuilder told = new StringBuilder();
        for (Class<?> type : types) {
            told.append(told.length() == 0 ? "" : ", ").append(type.getSimpleName());
        }
        return told.toString();
    }

    private static Set<String> namesMetTwice(Class<?> hall) {
        Set<String> open = new HashSet<>();
        for (Method method : hall.getDeclaredMethods()) {
            if (Modifier.isPublic(method.getModifiers())) {
                open.add(method.getName());
            }
        }
        Set<String> twice = new TreeSet<>();
        addNamesMet(hall, open, twice);
        for (Class<?> inside : hall.getDeclaredClasses()) {
            addNamesMet(inside, open, twice);
        }
        return twice;
    }

    private static void addNamesMet(Class<?> from, Set<String> open, Set<String> twice) {
        for (Method method : from.getDeclaredMethods()) {
            if (!Modifier.isPublic(method.getModifiers()) && open.contains(method.getName())) {
                twice.add(method.getName());
            }
        }
    }

    private static void looksAtClass(Class<?> one) {
        String name = one.getSimpleName();
        int fields = 0;
        for (Field field : one.getDeclaredFields()) {
            boolean isStatic = Modifier.isStatic(field.getModifiers());
            fields += isStatic ? 0 : 1;
            Expect.same(name + "." + field.getName() + " is static and can change", false,
                    () -> isStatic && !Modifier.isFinal(field.getModifiers()));
        }
        int counted = fields;
        Expect.same(name + " has at most 20 fields", true, () -> counted <= 20);
        for (Method method : one.getDeclaredMethods()) {
            Expect.same(name + "." + method.getName() + " has at most 7 parameters", true,
                    () -> method.getParameterCount() <= 7);
            Expect.same(name + "." + method.getName() + " is equals, hashCode or toString", false,
                    () -> Set.of("equals", "hashCode", "toString").contains(method.getName()));
        }
    }
}
