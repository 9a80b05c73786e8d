/** Promises 16 to 21: what is foretold. */
public final class ForetoldTest {
    private static final Checks C = new Checks();

    public static void main(String[] args) {
        balance();
        strain();
        first();
        level();
        levelByHalves();
        kissOn();
        kissOnWithoutGain();
        take();
        sundaysFromNow();
        nothingChanges();
        C.end();
    }

    private static void balance() {
        QuarrelDesk desk = Checks.told("plain 9 25");
        int[] due = {0, -29, -29, -27, -25, -23, -21, -46};
        for (int n = 0; n < due.length; n++) {
            C.due("balance(" + n + ")", desk.balance(n), 999999 + due[n]);
        }
        Checks.days(desk, 3);
        C.due("from when all was told", desk.balance(0), 999999 - 27);
        C.due("from when all was told", desk.balance(4), 999999 - 46);
        C.due("balance(-1)", desk.balance(-1), -3);
        C.due("balance(61)", desk.balance(61), -3);
        QuarrelDesk two = Checks.told("plain 4 10;plain 9 25;premium 3");
        // two tiffs of the first, a break of the second
        C.due("of all", two.balance(2), 999999 + 6 - 29);
        desk = Checks.told("plain 6 0;tiff 6;premium 3");
        C.due("balance(60)", desk.balance(60), 999999 + 30 + 50);
    }

    private static void strain() {
        QuarrelDesk desk = Checks.told("plain 4 10;sunday 4 0;sulky 2 11");
        int[] due = {10, 8, 6, 10, 8, 6, 10};
        for (int n = 0; n < due.length; n++) {
            C.due("strain(0, " + n + ")", desk.strain(0, n), due[n]);
        }
        C.due("a sunday one behind a sunday", desk.strain(1, 7), 8);
        C.due("a sulky one", desk.strain(2, 4), 25);
        C.due("a sulky one broken", desk.strain(2, 5), 0);
        Checks.days(desk, 2);
        C.due("from now", desk.strain(0, 1), 10);
        C.due("from now", desk.strain(2, 2), 25);
        C.due("strain(0, 60)", desk.strain(0, 60), 6);
        C.due("strain(0, -1)", desk.strain(0, -1), -3);
        C.due("strain(0, 61)", desk.strain(0, 61), -3);
        C.due("strain(3, 61)", desk.strain(3, 61), -2);
        C.due("strain(-1, 0)", desk.strain(-1, 0), -2);
    }

    private static void first() {
        QuarrelDesk desk = Checks.told("plain 9 25;plain 4 10;plain 4 0;sulky 2 11");
        C.due("first(0)", desk.first(0), 1);
        C.due("first(1)", desk.first(1), -1);
        C.due("first(3)", desk.first(3), 5);
        desk.day();
        C.due("the next", desk.first(0), 6);
        C.due("the next", desk.first(3), 4);
        C.due("first(4)", desk.first(4), -2);
        C.due("first(-1)", desk.first(-1), -2);
        desk = Checks.told("plain 1 40;plain 1 39;plain 1 38;tiff 99;break 99");
        C.due("59", desk.first(0), 59);
        C.due("60", desk.first(1), 60);
        C.due("61", desk.first(2), -1);
    }

    private static void level() {
        QuarrelDesk desk = Checks.told("plain 9 25");
        C.due("no tiffs", desk.level(1), -1);
        C.due("no tiffs", desk.level(2), -1);
        C.due("one tiff for 29", desk.level(3), 29);
        C.due("four tiffs for 29", desk.level(6), 8);
        C.due("four tiffs for 54", desk.level(7), 14);
        desk.change(2, 50);
        C.due("whatever the premium is", desk.level(7), 14);
        Checks.days(desk, 6);
        C.due("only what these days bring", desk.level(1), -1);
        C.due("only what these days bring", desk.level(3), 25);
        C.due("level(0)", desk.level(0), -3);
        C.due("level(61)", desk.level(61), -3);
        desk = Checks.told("plain 9 25;plain 6 0;excess 0;cover 50");
        desk.change(3, 6);
        // the second pays on each day: three days for 34
        C.due("others pay too", desk.level(2), 12);
        desk = Checks.told("plain 9 42;cover 99;excess 0");
        C.due("51 for one tiff is too much", desk.level(3), -1);
        desk.change(0, 1);
        C.due("50 is not", desk.level(3), 50);
        C.due("nothing is claimed", Checks.told("plain 4 10").level(60), 0);
    }

    private static void levelByHalves() {
        QuarrelDesk desk = Checks.told("plain 6 30;tiff 6");
        // 31 is claimed on day 0; nine premiums, then halves
        C.due("two halves", desk.level(12), 4);
        C.due("three halves", desk.level(13), 4);
        C.due("four halves", desk.level(14), 3);
        desk = Checks.told("plain 6 0;plain 6 0;tiff 6");
        Checks.days(desk, 10);
        for (int i = 0; i < 3; i++) {
            desk.mother(0);
        }
        // 31 is claimed now; a half from the other, then a whole and a half
        C.due("a half", desk.level(1), -1);
        C.due("a whole, two halves", desk.level(2), 16);
        desk = Checks.told("plain 6 0;tiff 6");
        Checks.days(desk, 11);
        for (int i = 0; i < 3; i++) {
            desk.mother(0);
        }
        C.due("a whole, the halves of before do not count", desk.level(2), 31);
    }

    private static void kissOn() {
        QuarrelDesk desk = Checks.told("plain 9 25");
        C.due("now", desk.kissOn(0, 1), 0);
        // breaks on days 7 and 15, for 27 each; kissed on day 3 once, on day 8, for 25
        desk = Checks.told("plain 4 0;tiff 99");
        C.due("kissOn(0, 7)", desk.kissOn(0, 7), -1);
        C.due("kissOn(0, 8)", desk.kissOn(0, 8), 2);
        C.due("kissOn(0, 16)", desk.kissOn(0, 16), 3);
        desk.day();
        C.due("days from now", desk.kissOn(0, 7), 1);
        C.due("kissOn(0, 0)", desk.kissOn(0, 0), -3);
        C.due("kissOn(0, 31)", desk.kissOn(0, 31), -3);
        C.due("kissOn(1, 31)", desk.kissOn(1, 31), -2);
        C.due("kissOn(-1, 1)", desk.kissOn(-1, 1), -2);
    }

    private static void kissOnWithoutGain() {
        C.due("nothing is claimed", Checks.told("plain 4 10").kissOn(0, 30), -1);
        // void it claims nothing, kissed it would
        QuarrelDesk desk = Checks.told("sulky 2 11");
        Checks.days(desk, 3);
        C.due("void", desk.kissOn(0, 30), -1);
        desk = Checks.told("plain 4 10;plain 9 25");
        C.due("a kiss of another saves nothing", desk.kissOn(0, 1), -1);
        C.due("a kiss of this one does", desk.kissOn(1, 1), 0);
        desk = Checks.told("plain 9 99;break 10");
        C.due("it claims the same whenever kissed", desk.kissOn(0, 1), -1);
    }

    private static void take() {
        // the first two break on days 7, 15, 23, the third on 5, 11, 17, 23
        QuarrelDesk desk = Checks.told("plain 4 0;plain 4 0;plain 5 0;tiff 99");
        int[][] due = {
            {0, 24, 0, 0}, {1, 24, 1, 1}, {1, 5, 1, 0}, {1, 7, 1, 0}, {1, 60, 1, 1},
            {2, 5, 3, 0}, {2, 7, 3, 0}, {2, 8, 5, 1}, {2, 23, 5, 1}, {2, 24, 3, 2}, {3, 23, 7, 2}, {3, 24, 7, 3}, {4, 24, -1, -1}, {6, 1, -1, -1}};
        for (int[] row : due) {
            C.due("take(" + row[0] + ", " + row[1] + ", 0)", desk.take(row[0], row[1], 0), row[2]);
            C.due("take(" + row[0] + ", " + row[1] + ", 1)", desk.take(row[0], row[1], 1), row[3]);
        }
        desk = Checks.told("plain 9 25;plain 9 25;plain 4 10");
        C.due("the last is best", desk.take(1, 1, 0), 4);
        C.due("the last is best", desk.take(1, 1, 1), 0);
        C.due("of several the least", desk.take(2, 1, 0), 5);
        int[][] outside = {{-1, 1, 0}, {7, 1, 0}, {1, 0, 0}, {1, 61, 0}, {1, 1, -1}, {1, 1, 2}, {6, 0, 0}, {6, 1, 2}};
        for (int[] row : outside) {
            C.due("take(" + row[0] + ", " + row[1] + ", " + row[2] + ")", desk.take(row[0], row[1], row[2]), -3);
        }
        C.due("of no couples", new QuarrelDesk().take(0, 1, 0), 0);
    }

    private static void sundaysFromNow() {
        // behind day 0 it is 9; 18, 27, 36, 45, 54, and on the sunday 72
        QuarrelDesk desk = Checks.told("sunday 9 0;plain 9 0;plain 1 0;break 60;tiff 99");
        desk.day();
        C.due("first", desk.first(0), 6);
        C.due("strain", desk.strain(0, 5), 54);
        C.due("balance", desk.balance(6), 999999 - 35 - 35);
        C.due("both break on the sunday", desk.take(2, 10, 0), 5);
        C.due("both break on the sunday", desk.take(2, 10, 1), 1);
        C.due("both break on the sunday", desk.take(3, 10, 1), 2);
        C.due("not before it", desk.mothers(0, 5, 0, 0), 0);
        C.due("on it", desk.mothers(0, 6, 0, 0), 1);
        // kissed at 9 or at 18 it is over 60 yet: 67, 63; at 27: 58
        C.due("a kiss saves it", desk.kissOn(0, 6), 2);
        Checks.written(desk, "desk;plain 1 0;plain 1 0").desk();
        C.due("what was foretold before is gone", desk.take(2, 60, 1), 0);
    }

    private static void nothingChanges() {
        QuarrelDesk desk = Checks.told("sulky 2 11;proud 3 10;plain 9 25");
        desk.day();
        desk.balance(60);
        desk.strain(0, 60);
        desk.first(2);
        desk.level(60);
        desk.kissOn(0, 30);
        desk.take(2, 60, 0);
        desk.tempers(0);
        desk.mothers(1, 6, 5, 0);
        C.dueOf("unchanged", desk, 0, 13, 1, 0, 0, 0, 0, 0, -1);
        C.dueOf("unchanged", desk, 1, 7, 0, 0, 0, 1, 2, 0, -1);
        C.dueOf("unchanged", desk, 2, 0, 0, 0, 1, 0, 0, 29, 0);
        C.due("a tiff the day before", desk.as(1, 2), 5);
        C.due("DAY", desk.count(1), 1);
        C.due("what can be undone", desk.count(7), 1);
        C.due("premium", desk.term(2), 2);
    }
}
