/** Promises 1 to 8: what is told. */
public final class ToldTest {
    private static final Checks C = new Checks();

    public static void main(String[] args) {
        newObject();
        write();
        erase();
        faultsOfOneClause();
        faultsOfWords();
        faultsBetweenClauses();
        faultsBySevenths();
        desk();
        deskBeginsAnew();
        couple();
        as();
        term();
        C.end();
    }

    private static QuarrelDesk written(String text) {
        return Checks.written(new QuarrelDesk(), text);
    }

    private static void fault(String text, int place) {
        QuarrelDesk desk = written(text);
        C.due("fault() of '" + text + "'", desk.fault(), place);
        C.due("letters behind fault() of '" + text + "'", desk.count(8), text.length());
    }

    private static void terms(String when, QuarrelDesk desk, int... terms) {
        for (int i = 0; i < 6; i++) {
            C.due(when + ": term(" + i + ")", desk.term(i), terms[i]);
        }
    }

    private static void newObject() {
        QuarrelDesk desk = new QuarrelDesk();
        int[] counts = {0, 0, 999999, 0, 0, 0, 0, 0, 0};
        for (int i = 0; i < counts.length; i++) {
            C.due("new: count(" + i + ")", desk.count(i), counts[i]);
        }
        terms("new", desk, 5, 40, 2, 12, 30, 6);
        C.due("new: couple(0, 0)", desk.couple(0, 0), -2);
        C.due("new: undo()", desk.undo(), -4);
        C.due("new: back(0)", desk.back(0), -4);
        C.due("NONE", QuarrelDesk.NONE, -1);
        C.due("UNKNOWN", QuarrelDesk.UNKNOWN, -2);
        C.due("OUTSIDE", QuarrelDesk.OUTSIDE, -3);
        C.due("NOT", QuarrelDesk.NOT, -4);
        C.due("FULL", QuarrelDesk.FULL, -5);
    }

    private static void write() {
        QuarrelDesk desk = new QuarrelDesk();
        C.due("write(-1)", desk.write(-1), -3);
        C.due("write(256)", desk.write(256), -3);
        C.due("write(MIN)", desk.write(Integer.MIN_VALUE), -3);
        C.due("write(0)", desk.write(0), 1);
        C.due("write(255)", desk.write(255), 2);
        for (int i = 3; i <= 160; i++) {
            C.due("letter " + i, desk.write(32), i);
        }
        C.due("letter 161", desk.write(32), -5);
        C.due("letter 161, 256", desk.write(256), -3);
        C.due("letters", desk.count(8), 160);
    }

    private static void erase() {
        QuarrelDesk desk = Checks.told("plain 4 10");
        C.due("erase() of none", desk.erase(), 0);
        Checks.written(desk, "abc");
        C.due("erase()", desk.erase(), 3);
        C.due("erase() again", desk.erase(), 0);
        C.due("couples behind erase()", desk.count(0), 1);
        C.due("write behind erase()", desk.write('d'), 1);
        C.due("fault of d", desk.fault(), 0);
    }

    private static void faultsOfOneClause() {
        fault("", 0);
        fault("   ", 3);
        fault("desk", -1);
        fault("  desk  ", -1);
        fault("Desk", 0);
        fault("desK", 0);
        fault(" des", 1);
        fault("desks", 0);
        fault("deskdesk", 0);
        fault("deskz", 0);
        fault("deska", 0);
        fault("desk`", 4);
        fault("desk{", 4);
        fault("tiff 9/", 6);
        fault("tiff 9:", 6);
        fault("abcdefghijklmnop", 0);
        fault("5", 0);
        fault("-", 0);
        fault("desk5", 4);
        fault("desk -", 5);
        fault("desk\t", 4);
        fault("desk" + (char) 0, 4);
        fault("desk" + (char) 233, 4);
        fault("plain", 5);
        fault("plain  ", 7);
        fault("plain3", 6);
        fault("plain 3 ", 8);
        fault("plain3 5", -1);
        fault("plain 35", 6);
        fault("plain  3   5 ", -1);
        fault("plain x 5", 6);
        fault("plain 3 x", 8);
        fault("plain 3;5", 7);
        fault("plain3 5x", 8);
        fault("plain 3 5 5", 10);
        fault("plain 3 5 plain", 10);
        String[] kinds = {"plain", "proud", "sunday", "sulky"};
        for (String kind : kinds) {
            int place = kind.length() + 1;
            fault(kind + " 1 0", -1);
            fault(kind + " 9 99", -1);
            fault(kind + " 09 00", -1);
            fault(kind + " 0 5", place);
            fault(kind + " 00 5", place);
            fault(kind + " 10 5", place);
            fault(kind + " 003 5", place);
            fault(kind + " 3 100", place + 2);
            fault(kind + " 3 005", place + 2);
        }
        String[] terms = {"excess", "cover", "premium", "tiff", "break", "relief"};
        int[] least = {0, 0, 0, 1, 1, 0};
        int[] most = {50, 99, 50, 99, 99, 20};
        for (int i = 0; i < 6; i++) {
            String word = terms[i];
            int place = word.length();
            fault(word, place);
            fault(word + least[i], -1);
            fault(word + " 0" + least[i], -1);
            fault(word + most[i], -1);
            fault(word + (most[i] + 1), place);
            fault(word + " 001", place + 1);
            fault(word + "-1", place);
            fault(word + " 1 1", place + 3);
            if (least[i] == 1) {
                fault(word + "0", place);
            }
        }
        fault("premiums 5", 0);
        fault("premium5", -1);
        fault("relief 12345678901234567890", 7);
    }

    private static void faultsOfWords() {
        String[] words = {"desk", "plain", "proud", "sunday", "sulky", "excess", "cover", "premium", "tiff", "break", "relief"};
        for (String word : words) {
            String behind = word.equals("desk") ? "" : word.length() == 5 && word.charAt(0) == 'p' || word.charAt(0) == 's' ? " 5 5" : " 5";
            fault(word + behind, -1);
            fault(" " + word + "s" + behind, 1);
            for (int i = 0; i < word.length(); i++) {
                fault(" " + word.substring(0, i) + "q" + word.substring(i + 1) + behind, 1);
                fault(word.substring(0, i) + word.substring(i + 1) + behind, 0);
            }
        }
    }

    private static void faultsBetweenClauses() {
        fault(";", 0);
        fault(";desk", 0);
        fault("desk;", 5);
        fault("desk; ", 6);
        fault("desk;;desk", 5);
        fault("desk;desk", -1);
        fault("desk desk", 5);
        fault("desk , desk", 5);
        fault("desk ; desk", -1);
        fault("desk;plain 3", 12);
        fault("tiff 5;break 0", 13);
        String fourteen = "desk;desk;desk;desk;desk;desk;desk;desk;desk;desk;desk;desk;desk;desk";
        fault(fourteen, -1);
        fault(fourteen + " ", -1);
        fault(fourteen + ";", 69);
        fault(fourteen + " ;desk", 70);
        fault(fourteen + " x", 70);
        fault(fourteen.substring(5), -1);
        fault(fourteen.substring(5) + ";", 65);
    }

    private static void faultsBySevenths() {
        String six = "plain1 1;plain1 1;proud1 1;sunday1 1;sulky1 1;plain1 1";
        fault(six, -1);
        fault(six + ";plain1 1", six.length() + 1);
        fault(six + "; sulky", six.length() + 2);
        fault(six + ";desk;sulky1 1", -1);
        fault(six + ";tiff 5", -1);
        fault("desk;" + six, -1);
        fault("plain1 1;desk;" + six + ";proud1 1", 15 + six.length());
        QuarrelDesk desk = Checks.told(six);
        C.due("seventh in a later text", Checks.written(desk, "tiff 5; proud 1 1").fault(), 8);
        C.due("desk() with it", desk.desk(), -4);
        desk.erase();
        C.due("behind desk", Checks.written(desk, "desk;proud 1 1").fault(), -1);
        desk = Checks.told("plain1 1;plain1 1;proud1 1;sunday1 1;sulky1 1");
        C.due("sixth and seventh", Checks.written(desk, "proud 1 1;proud 1 1").fault(), 10);
    }

    private static void desk() {
        QuarrelDesk desk = new QuarrelDesk();
        C.due("desk() of none", desk.desk(), -4);
        Checks.written(desk, "excess 9;tiff 0");
        C.due("desk() with a fault", desk.desk(), -4);
        C.due("its letters stay", desk.count(8), 15);
        C.due("its first clause is not done", desk.term(0), 5);
        desk.erase();
        Checks.written(desk, "excess 9;plain 1 1;desk;cover 7;sulky 4 5;cover 8");
        C.due("desk()", desk.desk(), 6);
        terms("desk()", desk, 5, 8, 2, 12, 30, 6);
        C.due("letters behind desk()", desk.count(8), 0);
        C.due("couples behind desk()", desk.count(0), 1);
        C.due("KIND", desk.couple(0, 0), 3);
        Checks.written(desk, "excess 50;premium 50;tiff 99;break 99;relief 20;proud 9 99");
        C.due("desk() again", desk.desk(), 6);
        terms("earlier terms stay", desk, 50, 8, 50, 99, 99, 20);
        C.due("earlier couples stay", desk.count(0), 2);
        C.due("KIND of the earlier", desk.couple(0, 0), 3);
        C.due("TEMPER of the earlier", desk.couple(0, 1), 4);
        C.due("KIND of the later", desk.couple(1, 0), 1);
        C.due("STRAIN of the later", desk.couple(1, 2), 99);
        Checks.written(desk, "desk");
        C.due("desk() of desk", desk.desk(), 1);
        terms("all as at first", desk, 5, 40, 2, 12, 30, 6);
        C.due("no couples", desk.count(0), 0);
    }

    private static void deskBeginsAnew() {
        QuarrelDesk desk = Checks.told("plain 9 25;sulky 2 11;proud 9 11;cover 30");
        Checks.days(desk, 4);
        desk.change(1, 99);
        desk.keep(0);
        desk.keep(1);
        desk.seen(0, 1, 1);
        Checks.written(desk, "excess 6 6");
        C.due("desk() with a fault", desk.desk(), -4);
        C.due("DAY stays", desk.count(1), 4);
        C.due("SEEN stays", desk.count(6), 1);
        C.due("what can be undone stays", desk.count(7), 5);
        C.due("what was kept stays", desk.keep(0), 4);
        desk.erase();
        Checks.written(desk, "excess 6");
        C.due("desk()", desk.desk(), 1);
        terms("as told", desk, 6, 30, 2, 12, 30, 6);
        int[] counts = {3, 0, 999999, 0, 0, 0, 0, 0, 0};
        for (int i = 0; i < counts.length; i++) {
            C.due("anew: count(" + i + ")", desk.count(i), counts[i]);
        }
        C.dueOf("anew", desk, 0, 25, 0, 0, 0, 0, 0, 0, -1);
        C.dueOf("anew", desk, 1, 11, 0, 0, 0, 0, 0, 0, -1);
        C.dueOf("anew", desk, 2, 11, 0, 0, 0, 0, 0, 0, -1);
        C.due("nobody had a TIFF", desk.as(2, 2), 9);
        C.due("back(0)", desk.back(0), -4);
        C.due("back(1)", desk.back(1), -4);
        C.due("undo()", desk.undo(), -4);
    }

    private static void couple() {
        QuarrelDesk desk = Checks.told("plain 9 25;proud 3 8;sunday 4 7;sulky 2 11");
        int[][] told = {{0, 9, 25}, {1, 3, 8}, {2, 4, 7}, {3, 2, 11}};
        for (int i = 0; i < 4; i++) {
            for (int what = 0; what < 3; what++) {
                C.due("couple(" + i + ", " + what + ")", desk.couple(i, what), told[i][what]);
            }
        }
        Checks.days(desk, 3);
        // 25: 34 broke, 9, 18 a tiff; 11: 13, 16, 20 in silence
        C.dueOf("three days", desk, 0, 12, 0, 0, 1, 1, 2, 29, 0);
        C.dueOf("three days", desk, 3, 20, 3, 1, 0, 0, 0, 0, -1);
        C.due("what -1", desk.couple(0, -1), -3);
        C.due("what 10", desk.couple(0, 10), -3);
        C.due("couple 4", desk.couple(4, 0), -2);
        C.due("couple -1", desk.couple(-1, 0), -2);
        C.due("couple 4, what 10", desk.couple(4, 10), -2);
        C.due("couple MAX", desk.couple(Integer.MAX_VALUE, 0), -2);
    }

    private static void as() {
        QuarrelDesk desk = Checks.told("plain 9 25;proud 3 11;sunday 4 7;sulky 2 11");
        int[][] is = {{0, 1}, {0, 1, 2}, {0, 1, 3}, {0, 4}};
        int[] gains = {9, 3, 4, 2};
        for (int i = 0; i < 4; i++) {
            for (int kind = 0; kind <= 4; kind++) {
                boolean such = false;
                for (int k : is[i]) {
                    such = such || k == kind;
                }
                C.due("as(" + i + ", " + kind + ")", desk.as(i, kind), such ? gains[i] : -4);
            }
        }
        desk.day();
        C.due("a proud one behind a tiff, as COUPLE", desk.as(1, 0), 5);
        C.due("a proud one behind a tiff, as PLAIN", desk.as(1, 1), 5);
        C.due("a proud one behind a tiff, as PROUD", desk.as(1, 2), 5);
        C.due("a sulky one, silent a day", desk.as(3, 0), 3);
        C.due("a sunday one on day 1", desk.as(2, 1), 4);
        Checks.days(desk, 5);
        C.due("a sunday one on day 6", desk.as(2, 1), 8);
        C.due("a sunday one on day 6", desk.as(2, 3), 8);
        desk.day();
        C.due("a sunday one on day 7", desk.as(2, 3), 4);
        C.due("kind -1", desk.as(0, -1), -3);
        C.due("kind 5", desk.as(0, 5), -3);
        C.due("couple 4, kind 5", desk.as(4, 5), -2);
        C.due("couple -1", desk.as(-1, 0), -2);
    }

    private static void term() {
        QuarrelDesk desk = Checks.told("excess 1;cover 2;premium 3;tiff 4;break 5;relief 6");
        terms("told", desk, 1, 2, 3, 4, 5, 6);
        C.due("term(-1)", desk.term(-1), -3);
        C.due("term(6)", desk.term(6), -3);
        desk.change(5, 20);
        C.due("changed", desk.term(5), 20);
    }
}
