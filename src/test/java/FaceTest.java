import java.io.IOException;
import java.lang.management.ManagementFactory;
import java.lang.reflect.Field;
import java.lang.reflect.Method;
import java.lang.reflect.Modifier;
import java.nio.file.Files;
import java.nio.file.Path;
import java.util.Set;
import java.util.TreeSet;
import java.util.regex.Matcher;
import java.util.regex.Pattern;

/** The public face, the rules of LANGUAGE.md that can be looked up in the source, the room of a call. */
public final class FaceTest {
    private static final Checks C = new Checks();

    public static void main(String[] args) throws IOException {
        face();
        inside();
        source(Files.readString(Path.of(System.getProperty("source", "src/main/java/QuarrelDesk.java"))));
        room();
        C.end();
    }

    private static final String[] CALLS = {
        "write 1", "erase 0", "fault 0", "desk 0", "couple 2", "as 2", "term 1", "day 0", "kiss 1", "mother 1",
        "change 2", "undo 0", "keep 1", "back 1", "balance 1", "strain 2", "first 1", "level 1", "kissOn 2",
        "take 3", "seen 3", "forget 0", "tempers 1", "mothers 4", "count 1"};

    private static void face() {
        Set<String> due = new TreeSet<>(Set.of(CALLS));
        Set<String> names = new TreeSet<>();
        for (String call : CALLS) {
            names.add(call.substring(0, call.indexOf(' ')));
        }
        for (Method m : QuarrelDesk.class.getDeclaredMethods()) {
            boolean isOpen = Modifier.isPublic(m.getModifiers());
            C.due("public or private: " + m, isOpen != Modifier.isPrivate(m.getModifiers()) ? 1 : 0, 1);
            if (isOpen) {
                C.due("a call of the face: " + m, due.remove(m.getName() + " " + m.getParameterCount()) ? 1 : 0, 1);
                C.due("answers an int: " + m, m.getReturnType() == int.class ? 1 : 0, 1);
            } else {
                C.due("a name of its own: " + m, names.contains(m.getName()) ? 1 : 0, 0);
            }
        }
        C.due("calls that are missing: " + due, due.size(), 0);
        int constants = 0;
        for (Field f : QuarrelDesk.class.getDeclaredFields()) {
            if (!Modifier.isPrivate(f.getModifiers())) {
                constants++;
                C.due("public static final: " + f, f.getModifiers(), Modifier.PUBLIC | Modifier.STATIC | Modifier.FINAL);
            }
        }
        C.due("constants", constants, 5);
        C.due("constructors", QuarrelDesk.class.getConstructors().length, 1);
        C.due("public and final", QuarrelDesk.class.getModifiers(), Modifier.PUBLIC | Modifier.FINAL);
    }

    private static void inside() {
        Class<?>[] classes = QuarrelDesk.class.getDeclaredClasses();
        C.due("some twelve classes", classes.length < 12 ? 1 : 0, 1);
        for (Class<?> c : classes) {
            C.due("static, not public: " + c, c.getModifiers() & (Modifier.STATIC | Modifier.PUBLIC), Modifier.STATIC);
            int fields = 0;
            for (Field f : c.getDeclaredFields()) {
                boolean isShared = Modifier.isStatic(f.getModifiers());
                fields += isShared ? 0 : 1;
                C.due("a static field is final: " + f, isShared && !Modifier.isFinal(f.getModifiers()) ? 1 : 0, 0);
            }
            C.due("some twenty fields: " + c, fields <= 20 ? 1 : 0, 1);
        }
    }

    private static void source(String source) {
        String code = source.replaceAll("(?s)/\\*.*?\\*/", "").replaceAll("//[^\n]*", "");
        String[] banned = {"throw", "throws", "try", "catch", "synchronized", "assert", "import", "package", "null",
            "protected", "Object", "System", "HashMap", "record", "volatile", "native", "hashCode", "toString"};
        for (String word : banned) {
            C.due("no word " + word, Pattern.compile("\\b" + word + "\\b").matcher(code).find() ? 1 : 0, 0);
        }
        C.due("no lambda, no method reference", code.contains("->") || code.contains("::") ? 1 : 0, 0);
        Matcher method = Pattern.compile("(?m)^( {4}| {8})(?! )[^;=\n]*\\) \\{$").matcher(code);
        while (method.find()) {
            String end = "\n" + method.group(1) + "}";
            String body = code.substring(method.start(), Math.max(method.start(), code.indexOf(end, method.start())));
            C.due("a short method: " + method.group(), body.lines().count() <= 60 ? 1 : 0, 1);
            C.due("few parameters: " + method.group(), method.group().split(",").length <= 7 ? 1 : 0, 1);
        }
    }

    /** Calls make no objects: all calls of one run live in one room. */
    private static void room() {
        QuarrelDesk desk = new QuarrelDesk();
        char[] letters = "desk;plain 9 25;proud 3 8;sunday 4 7;sulky 2 11;tiff 9".toCharArray();
        com.sun.management.ThreadMXBean threads = (com.sun.management.ThreadMXBean) ManagementFactory.getThreadMXBean();
        everyCall(desk, letters);
        long before = threads.getThreadAllocatedBytes(Thread.currentThread().getId());
        for (int i = 0; i < 100; i++) {
            everyCall(desk, letters);
        }
        long made = threads.getThreadAllocatedBytes(Thread.currentThread().getId()) - before;
        C.due("a hundred runs made few bytes (" + made + ")", made < 10000 ? 1 : 0, 1);
    }

    private static void everyCall(QuarrelDesk desk, char[] letters) {
        for (char letter : letters) {
            desk.write(letter);
        }
        desk.fault();
        desk.desk();
        desk.seen(0, 3, 5);
        desk.keep(0);
        desk.day();
        desk.kiss(0);
        desk.mother(0);
        desk.change(0, 1);
        desk.undo();
        desk.back(0);
        desk.balance(60);
        desk.strain(0, 60);
        desk.first(0);
        desk.level(60);
        desk.kissOn(0, 30);
        desk.take(2, 60, 0);
        desk.tempers(0);
        desk.mothers(0, 6, 5, 0);
        desk.couple(0, 0);
        desk.as(0, 0);
        desk.term(0);
        desk.count(2);
        desk.forget();
        desk.erase();
    }
}
