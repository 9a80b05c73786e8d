/** Counts and prints the calls whose answer is not the one that is due. */
final class Checks {
    private int wrong;
    private int made;

    void due(String call, long got, long want) {
        made++;
        if (got != want) {
            wrong++;
            System.out.println(call + " answered " + got + ", due is " + want);
        }
    }

    /** Couple 0's parts from what 2 on, in their order. */
    void dueOf(String when, QuarrelDesk desk, int couple, int... parts) {
        for (int i = 0; i < parts.length; i++) {
            due(when + ": couple(" + couple + ", " + (i + 2) + ")", desk.couple(couple, i + 2), parts[i]);
        }
    }

    static QuarrelDesk written(QuarrelDesk desk, String text) {
        for (char letter : text.toCharArray()) {
            desk.write(letter);
        }
        return desk;
    }

    static QuarrelDesk told(String text) {
        QuarrelDesk desk = written(new QuarrelDesk(), text);
        if (desk.desk() < 1) {
            throw new IllegalStateException("the test's own text has a fault: " + text);
        }
        return desk;
    }

    static void days(QuarrelDesk desk, int n) {
        for (int i = 0; i < n; i++) {
            desk.day();
        }
    }

    void end() {
        System.out.println(made + " answers looked at, " + wrong + " not as due");
        if (wrong != 0) {
            System.exit(1);
        }
    }
}
