import java.lang.reflect.InvocationTargetException;
import java.lang.reflect.Method;
import java.util.Map;
import java.util.TreeMap;
import java.util.function.IntSupplier;

/** Counts and prints the calls whose answer is not the one that is due. */
final class Checks {
    static final int NONE = -1, UNKNOWN = -2, OUTSIDE = -3, NOT = -4, FULL = -5;

    private int wrong;
    private int made;
    private String test = "";

    void due(String call, long got, long want) {
        made++;
        if (got != want) {
            wrong++;
            System.out.println(test + call + " answered " + got + ", due is " + want);
        }
    }

    /** A couple's parts from what 2 on, in their order. */
    void dueOf(String when, QuarrelDesk desk, int couple, int... parts) {
        for (int i = 0; i < parts.length; i++) {
            due(when + ": couple(" + couple + ", " + (i + 2) + ")", desk.couple(couple, i + 2), parts[i]);
        }
    }

    /** A call that is refused: it answers so, and nothing changes. */
    void refused(String call, QuarrelDesk desk, IntSupplier made, int want) {
        String before = all(desk);
        due(call, made.getAsInt(), want);
        String after = all(desk);
        due(call + " changes nothing: " + before + "then" + after, after.equals(before) ? 1 : 0, 1);
    }

    /** A call that only asks: it answers so, and nothing changes. */
    void asked(String call, QuarrelDesk desk, IntSupplier made, int want) {
        refused(call, desk, made, want);
    }

    /** All that a desk tells of how it is. */
    static String all(QuarrelDesk desk) {
        StringBuilder all = new StringBuilder(" ");
        for (int what = 0; what <= 8; what++) {
            all.append(desk.count(what)).append(' ');
        }
        for (int what = 0; what <= 5; what++) {
            all.append(desk.term(what)).append(' ');
        }
        all.append(desk.fault()).append(' ');
        for (int couple = 0; couple < desk.count(0); couple++) {
            for (int what = 0; what <= 9; what++) {
                all.append(desk.couple(couple, what)).append(' ');
            }
            all.append(desk.as(couple, 0)).append(' ').append(desk.tempers(couple)).append(' ');
        }
        return all.toString();
    }

    static QuarrelDesk written(QuarrelDesk desk, String text) {
        for (char letter : text.toCharArray()) {
            desk.write(letter);
        }
        return desk;
    }

    static QuarrelDesk told(String text) {
        return further(new QuarrelDesk(), text);
    }

    static QuarrelDesk further(QuarrelDesk desk, String text) {
        if (written(desk, text).desk() < 1) {
            throw new IllegalStateException("the test's own text has a fault: " + text);
        }
        return desk;
    }

    static void days(QuarrelDesk desk, int n) {
        for (int i = 0; i < n; i++) {
            desk.day();
        }
    }

    /** Runs each static method whose name begins with "promise" and a number from first to last. */
    void runPromises(Class<?> tests, int first, int last) {
        Map<String, Method> byName = new TreeMap<>();
        boolean[] looked = new boolean[last + 1];
        for (Method method : tests.getDeclaredMethods()) {
            if (method.getName().startsWith("promise")) {
                byName.put(method.getName(), method);
                looked[Integer.parseInt(method.getName().replaceAll("promise([0-9]+).*", "$1"))] = true;
            }
        }
        for (Method method : byName.values()) {
            runOne(method);
        }
        for (int promise = first; promise <= last; promise++) {
            due("tests of promise " + promise, looked[promise] ? 1 : 0, 1);
        }
        System.out.println(byName.size() + " tests");
    }

    private void runOne(Method method) {
        test = method.getName() + ": ";
        try {
            method.setAccessible(true);
            method.invoke(null);
        } catch (InvocationTargetException | IllegalAccessException e) {
            throw new IllegalStateException(method.getName(), e);
        }
        test = "";
    }

    void end() {
        System.out.println(made + " answers looked at, " + wrong + " not as due");
        if (wrong != 0) {
            System.exit(1);
        }
    }
}
