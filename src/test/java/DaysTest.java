/** Promises 9 to 15: days, kisses, mothers, changes, what is undone and kept. */
public final class DaysTest {
    private static final Checks C = new Checks();

    public static void main(String[] args) {
        breaks();
        claims();
        tiffs();
        halfPremiums();
        proud();
        sunday();
        sulky();
        lastDay();
        kiss();
        mother();
        change();
        undo();
        undoIsOfTheLatestEight();
        keep();
        back();
        C.end();
    }

    private static void breaks() {
        QuarrelDesk desk = Checks.told("plain 9 25;plain 1 0;plain 9 21;plain 9 20");
        C.due("day()", desk.day(), 5);
        C.dueOf("34", desk, 0, 0, 0, 0, 1, 0, 0, 29, 0);
        C.dueOf("30", desk, 2, 0, 0, 0, 1, 0, 0, 25, 0);
        C.dueOf("29", desk, 3, 23, 0, 0, 0, 1, 2, 0, -1);
        C.due("DAY", desk.count(1), 1);
        C.due("second day()", desk.day(), 8);
        C.due("day() of no couples", new QuarrelDesk().day(), 0);
        // strain is 99 at most, and a break may lie under a tiff
        desk = Checks.told("plain 9 99;break 99;cover 99;excess 0;plain 5 0");
        desk.change(4, 5);
        C.due("break under tiff", desk.day(), 3);
        C.dueOf("99 at most", desk, 0, 0, 0, 0, 1, 0, 0, 99, 0);
        C.dueOf("5", desk, 1, 0, 0, 0, 1, 0, 0, 5, 0);
    }

    private static void claims() {
        int[][] due = {{5, 40, 29}, {5, 34, 29}, {5, 33, 28}, {5, 20, 15}, {50, 99, 0}, {20, 20, 0}, {0, 0, 0}, {34, 99, 0}, {33, 99, 1}};
        for (int[] row : due) {
            QuarrelDesk desk = Checks.told("plain 9 25");
            desk.change(0, row[0]);
            desk.change(1, row[1]);
            desk.day();
            C.due("claimed with excess " + row[0] + ", cover " + row[1], desk.couple(0, 8), row[2]);
            C.due("balance of it", desk.count(2), 999999 - row[2]);
        }
    }

    private static void tiffs() {
        QuarrelDesk desk = Checks.told("plain 4 10");
        int[] strains = {8, 6, 10, 8, 6, 10};
        int[] tiffs = {1, 2, 2, 3, 4, 4};
        for (int i = 0; i < strains.length; i++) {
            C.due("nobody broke", desk.day(), 0);
            C.dueOf("day " + i, desk, 0, strains[i], 0, 0, 0, tiffs[i], 2 * tiffs[i], 0, -1);
        }
        desk = Checks.told("plain 3 2;tiff 5;relief 20");
        desk.day();
        C.dueOf("0 at least", desk, 0, 0, 0, 0, 0, 1, 2, 0, -1);
    }

    private static void halfPremiums() {
        QuarrelDesk desk = Checks.told("plain 6 0;tiff 6;premium 3");
        Checks.days(desk, 10);
        C.due("ten at full", desk.couple(0, 7), 30);
        desk.day();
        C.due("day 10 is half, cut", desk.couple(0, 7), 31);
        desk = Checks.told("plain 6 30;tiff 6");
        Checks.days(desk, 10);
        C.dueOf("broke on day 0, nine at full", desk, 0, 0, 0, 0, 1, 9, 18, 31, 0);
        desk.day();
        C.dueOf("ten days ago", desk, 0, 0, 0, 0, 1, 10, 19, 31, 0);
        desk = Checks.told("plain 6 0;tiff 6");
        Checks.days(desk, 11);
        C.due("day 10 is half", desk.couple(0, 7), 21);
        for (int i = 0; i < 3; i++) {
            desk.mother(0);
        }
        C.due("breaks on day 11", desk.day(), 1);
        C.due("day of it", desk.couple(0, 9), 11);
        Checks.days(desk, 9);
        C.due("days 12 to 20 at full", desk.couple(0, 7), 39);
        desk.day();
        C.due("day 21 is half", desk.couple(0, 7), 40);
    }

    private static void proud() {
        QuarrelDesk desk = Checks.told("proud 3 8;break 99");
        int[] strains = {11, 8, 7, 6, 11, 8, 7};
        int[] gains = {3, 5, 5, 5, 3, 5, 5};
        for (int i = 0; i < strains.length; i++) {
            desk.day();
            C.due("strain behind day " + i, desk.couple(0, 2), strains[i]);
            C.due("gain behind day " + i, desk.as(0, 2), gains[i]);
        }
        desk.kiss(0);
        C.due("a kiss leaves the tiff of the day before", desk.as(0, 2), 5);
        desk = Checks.told("proud 3 20");
        desk.day();
        C.due("a tiff", desk.as(0, 2), 5);
        desk.change(4, 1);
        C.due("a break", desk.day(), 1);
        C.due("is no tiff", desk.as(0, 2), 3);
    }

    private static void sunday() {
        QuarrelDesk desk = Checks.told("sunday 4 0;tiff 99");
        int[] strains = {4, 8, 12, 16, 20, 24, 0, 4};
        for (int i = 0; i < strains.length; i++) {
            C.due("day " + i, desk.day(), i == 6 ? 1 : 0);
            C.due("strain behind day " + i, desk.couple(0, 2), strains[i]);
        }
        C.dueOf("broke on a sunday", desk, 0, 4, 0, 0, 1, 0, 0, 27, 6);
        Checks.days(desk, 6);
        C.dueOf("broke on the next", desk, 0, 0, 0, 0, 2, 0, 0, 54, 13);
        desk = Checks.told("sunday 9 29;sunday 9 10");
        C.due("broke on day 0", desk.day(), 1);
        C.dueOf("claims nothing on other days", desk, 0, 0, 0, 0, 1, 0, 0, 0, 0);
        C.dueOf("pays as a plain one does", desk, 1, 13, 0, 0, 0, 1, 2, 0, -1);
    }

    private static void sulky() {
        QuarrelDesk desk = Checks.told("sulky 2 11");
        int[][] parts = {{13, 1, 0}, {16, 2, 0}, {20, 3, 1}, {25, 4, 1}};
        for (int i = 0; i < parts.length; i++) {
            C.due("day " + i, desk.day(), 0);
            C.dueOf("day " + i, desk, 0, parts[i][0], parts[i][1], parts[i][2], 0, 0, 0, 0, -1);
        }
        C.due("broke in silence", desk.day(), 1);
        C.dueOf("void", desk, 0, 0, 0, 1, 1, 0, 0, 0, 4);
        desk.day();
        C.dueOf("not silent, void yet", desk, 0, 2, 0, 1, 1, 0, 0, 0, 4);
        desk = Checks.told("sulky 2 11");
        Checks.days(desk, 2);
        desk.change(3, 99);
        desk.day();
        C.dueOf("below the limit it is not silent", desk, 0, 20, 0, 0, 0, 0, 0, 0, -1);
        desk.change(3, 1);
        Checks.days(desk, 2);
        C.dueOf("two days are no three", desk, 0, 25, 2, 0, 0, 0, 0, 0, -1);
        desk = Checks.told("sulky 9 25");
        desk.day();
        C.dueOf("not void: it claims", desk, 0, 0, 0, 0, 1, 0, 0, 29, 0);
    }

    /** Beyond the calls that are promised, but a day without end is not to be. */
    private static void lastDay() {
        QuarrelDesk desk = Checks.told("plain 1 0");
        Checks.days(desk, 999);
        C.due("DAY", desk.count(1), 999);
        C.due("day() on DAY 999", desk.day(), -5);
        C.due("DAY yet", desk.count(1), 999);
    }

    private static void kiss() {
        QuarrelDesk desk = Checks.told("sulky 2 11;plain 1 1;plain 1 0");
        Checks.days(desk, 4);
        C.due("kiss(0)", desk.kiss(0), 12);
        C.dueOf("kissed", desk, 0, 12, 0, 0, 0, 0, 0, 0, -1);
        C.due("kiss(1)", desk.kiss(1), 2);
        C.due("kiss(1) again", desk.kiss(1), 1);
        C.due("kiss(1) a third time", desk.kiss(1), 0);
        C.due("kiss(3)", desk.kiss(3), -2);
        C.due("kiss(-1)", desk.kiss(-1), -2);
        C.due("what can be undone", desk.count(7), 8);
    }

    private static void mother() {
        QuarrelDesk desk = Checks.told("sulky 2 75;break 99");
        Checks.days(desk, 3);
        C.due("strain", desk.couple(0, 2), 84);
        C.due("mother(0)", desk.mother(0), 94);
        C.due("mother(0) again", desk.mother(0), 99);
        C.due("mother(0) a third time", desk.mother(0), 99);
        C.dueOf("silent, void yet", desk, 0, 99, 3, 1, 0, 0, 0, 0, -1);
        C.due("mother(1)", desk.mother(1), -2);
        C.due("mother(-1)", desk.mother(-1), -2);
        C.due("what can be undone", desk.count(7), 6);
    }

    private static void change() {
        int[] first = {5, 40, 2, 12, 30, 6};
        int[] least = {0, 0, 0, 1, 1, 0};
        int[] most = {50, 99, 50, 99, 99, 20};
        for (int i = 0; i < 6; i++) {
            QuarrelDesk desk = new QuarrelDesk();
            C.due("too little", desk.change(i, least[i] - 1), -3);
            C.due("too much", desk.change(i, most[i] + 1), -3);
            C.due("nothing changed", desk.term(i), first[i]);
            C.due("nothing to undo", desk.count(7), 0);
            C.due("the least", desk.change(i, least[i]), first[i]);
            C.due("the most", desk.change(i, most[i]), least[i]);
            C.due("is the most", desk.term(i), most[i]);
            for (int other = 0; other < 6; other++) {
                C.due("others stay", desk.term(other), other == i ? most[i] : first[other]);
            }
        }
        QuarrelDesk desk = Checks.told("plain 9 25");
        C.due("what -1", desk.change(-1, 5), -3);
        C.due("what 6", desk.change(6, 5), -3);
        C.due("break 35", desk.change(4, 35), 30);
        C.due("34 is no break then", desk.day(), 0);
        Checks.written(desk, "tiff 11").desk();
        C.due("behind a text it is as told", desk.term(4), 30);
    }

    private static void undo() {
        QuarrelDesk desk = Checks.told("sulky 2 11;proud 3 10;plain 9 25");
        Checks.days(desk, 2);
        desk.day();
        desk.kiss(0);
        desk.mother(1);
        desk.change(2, 2);
        C.due("what can be undone", desk.count(7), 6);
        C.due("undo() of change", desk.undo(), 5);
        C.due("undo() of mother", desk.undo(), 4);
        C.due("strain of it", desk.couple(1, 2), 11);
        C.due("undo() of kiss", desk.undo(), 3);
        C.dueOf("undone", desk, 0, 20, 3, 1, 0, 0, 0, 0, -1);
        C.due("undo() of day", desk.undo(), 2);
        C.dueOf("undone", desk, 0, 16, 2, 0, 0, 0, 0, 0, -1);
        C.dueOf("undone", desk, 1, 6, 0, 0, 0, 2, 4, 0, -1);
        C.dueOf("undone", desk, 2, 9, 0, 0, 1, 0, 0, 29, 0);
        C.due("a tiff the day before", desk.as(1, 2), 5);
        C.due("DAY", desk.count(1), 2);
        C.due("undo() of day", desk.undo(), 1);
        C.due("undo() of day", desk.undo(), 0);
        C.dueOf("undone", desk, 2, 25, 0, 0, 0, 0, 0, 0, -1);
        C.due("DAY", desk.count(1), 0);
        C.due("balance", desk.count(2), 999999);
        C.due("undo() of none", desk.undo(), -4);
        desk.change(0, 51);
        desk.kiss(9);
        desk.mother(9);
        C.due("what is refused is not undone", desk.undo(), -4);
        desk.change(0, 7);
        desk.seen(0, 1, 1);
        desk.keep(0);
        desk.write('x');
        C.due("undo() of change", desk.undo(), 0);
        C.due("SEEN stays", desk.count(6), 1);
        C.due("THE TEXT stays", desk.count(8), 1);
        C.due("what was kept stays", desk.back(0), 0);
        C.due("the kept excess", desk.term(0), 7);
    }

    private static void undoIsOfTheLatestEight() {
        QuarrelDesk desk = new QuarrelDesk();
        for (int i = 1; i <= 20; i++) {
            desk.change(0, i);
            C.due("what can be undone", desk.count(7), Math.min(8, i));
        }
        for (int i = 7; i >= 0; i--) {
            C.due("undo()", desk.undo(), i);
            C.due("excess", desk.term(0), 12 + i);
        }
        C.due("undo() of the ninth", desk.undo(), -4);
        desk.change(0, 30);
        desk.change(0, 31);
        C.due("undo()", desk.undo(), 1);
        C.due("excess", desk.term(0), 30);
        for (int i = 0; i < 9; i++) {
            desk.day();
        }
        C.due("what can be undone", desk.count(7), 8);
        for (int i = 0; i < 8; i++) {
            desk.undo();
        }
        C.due("DAY", desk.count(1), 1);
        C.due("undo()", desk.undo(), -4);
    }

    private static void keep() {
        QuarrelDesk desk = Checks.told("plain 4 10");
        C.due("keep(-1)", desk.keep(-1), -2);
        C.due("keep(2)", desk.keep(2), -2);
        desk.day();
        C.due("keep(0)", desk.keep(0), 1);
        desk.day();
        C.due("keep(1)", desk.keep(1), 2);
        C.due("what can be undone stays", desk.count(7), 2);
        C.due("back(0)", desk.back(0), 1);
        C.due("keep(1) over it", desk.keep(1), 1);
        desk.day();
        C.due("back(1)", desk.back(1), 1);
    }

    private static void back() {
        QuarrelDesk desk = Checks.told("sulky 2 11;proud 3 10;plain 9 25");
        C.due("back(-1)", desk.back(-1), -2);
        C.due("back(2)", desk.back(2), -2);
        C.due("back(0)", desk.back(0), -4);
        Checks.days(desk, 3);
        desk.keep(1);
        C.due("back(0), only 1 kept", desk.back(0), -4);
        desk.change(3, 40);
        desk.kiss(0);
        Checks.days(desk, 3);
        desk.seen(0, 1, 1);
        desk.write('x');
        for (int i = 0; i < 2; i++) {
            C.due("back(1)", desk.back(1), 3);
            C.due("DAY", desk.count(1), 3);
            C.due("tiff", desk.term(3), 12);
            C.dueOf("back", desk, 0, 20, 3, 1, 0, 0, 0, 0, -1);
            C.dueOf("back", desk, 1, 11, 0, 0, 0, 2, 4, 0, -1);
            C.dueOf("back", desk, 2, 12, 0, 0, 1, 1, 2, 29, 0);
            C.due("no tiff the day before", desk.as(1, 2), 3);
            C.due("nothing can be undone", desk.undo(), -4);
            C.due("SEEN stays", desk.count(6), 1);
            C.due("THE TEXT stays", desk.count(8), 1);
            desk.day();
            desk.mother(1);
        }
        desk.erase();
        Checks.written(desk, "tiff").desk();
        C.due("a text with a fault leaves it", desk.back(1), 3);
        Checks.written(desk, " 9").desk();
        C.due("a text does not", desk.back(1), -4);
    }
}
