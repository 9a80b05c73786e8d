import java.lang.management.ManagementFactory;
import java.lang.reflect.Field;
import java.lang.reflect.Method;
import java.lang.reflect.Modifier;
import java.util.Set;
import java.util.TreeSet;

/** The public face, and the room of a call. */
public final class FaceTest {
    private static final Checks C = new Checks();

    public static void main(String[] args) {
        face();
        room();
        C.end();
    }

    private static final String[] CALLS = {
        "write 1", "erase 0", "fault 0", "desk 0", "couple 2", "as 2", "term 1", "day 0", "kiss 1", "mother 1",
        "change 2", "undo 0", "keep 1", "back 1", "balance 1", "strain 2", "first 1", "level 1", "kissOn 2",
        "take 3", "seen 3", "forget 0", "tempers 1", "mothers 4", "count 1"};

    private static void face() {
        Set<String> due = new TreeSet<>(Set.of(CALLS));
        Set<String> names = new TreeSet<>();
        for (String call : CALLS) {
            names.add(call.substring(0, call.indexOf(' ')));
        }
        for (Method m : QuarrelDesk.class.getDeclaredMethods()) {
            boolean isOpen = Modifier.isPublic(m.getModifiers());
            C.due("public or private: " + m, isOpen != Modifier.isPrivate(m.getModifiers()) ? 1 : 0, 1);
            if (isOpen) {
                C.due("a call of the face: " + m, due.remove(m.getName() + " " + m.getParameterCount()) ? 1 : 0, 1);
                C.due("answers an int: " + m, m.getReturnType() == int.class ? 1 : 0, 1);
            } else {
                C.due("a name of its own: " + m, names.contains(m.getName()) ? 1 : 0, 0);
            }
        }
        C.due("calls that are missing: " + due, due.size(), 0);
        int constants = 0;
        for (Field f : QuarrelDesk.class.getDeclaredFields()) {
            if (!Modifier.isPrivate(f.getModifiers())) {
                constants++;
                C.due("public static final: " + f, f.getModifiers(), Modifier.PUBLIC | Modifier.STATIC | Modifier.FINAL);
            }
        }
        C.due("constants", constants, 5);
        C.due("constructors", QuarrelDesk.class.getConstructors().length, 1);
        C.due("public and final", QuarrelDesk.class.getModifiers(), Modifier.PUBLIC | Modifier.FINAL);
    }

    /** Calls make no objects: all calls of one run live in one room. */
    private static void room() {
        QuarrelDesk desk = new QuarrelDesk();
        char[] letters = "desk;plain 9 25;proud 3 8;sunday 4 7;sulky 2 11;tiff 9".toCharArray();
        com.sun.management.ThreadMXBean threads = (com.sun.management.ThreadMXBean) ManagementFactory.getThreadMXBean();
        everyCall(desk, letters);
        long before = threads.getThreadAllocatedBytes(Thread.currentThread().getId());
        for (int i = 0; i < 100; i++) {
            everyCall(desk, letters);
        }
        long made = threads.getThreadAllocatedBytes(Thread.currentThread().getId()) - before;
        C.due("a hundred runs made few bytes (" + made + ")", made < 10000 ? 1 : 0, 1);
    }

    private static void everyCall(QuarrelDesk desk, char[] letters) {
        for (char letter : letters) {
            desk.write(letter);
        }
        desk.fault();
        desk.desk();
        desk.seen(0, 3, 5);
        desk.keep(0);
        desk.day();
        desk.kiss(0);
        desk.mother(0);
        desk.change(0, 1);
        desk.undo();
        desk.back(0);
        desk.balance(60);
        desk.strain(0, 60);
        desk.first(0);
        desk.level(60);
        desk.kissOn(0, 30);
        desk.take(2, 60, 0);
        desk.tempers(0);
        desk.mothers(0, 6, 5, 0);
        desk.couple(0, 0);
        desk.as(0, 0);
        desk.term(0);
        desk.count(2);
        desk.forget();
        desk.erase();
    }
}
