/** Promises 22 to 26: what was seen, mothers by chance, counts. */
public final class SeenTest {
    private static final Checks C = new Checks();

    public static void main(String[] args) {
        seen();
        forget();
        tempers();
        tempersFromNow();
        mothers();
        mothersRefused();
        count();
        C.end();
    }

    private static void seen() {
        QuarrelDesk desk = Checks.told("plain 4 10;sulky 1 1");
        C.due("seen(2, 0, 100)", desk.seen(2, 0, 100), -2);
        C.due("seen(-1, 1, 1)", desk.seen(-1, 1, 1), -2);
        C.due("0 days", desk.seen(0, 0, 1), -3);
        C.due("31 days", desk.seen(0, 31, 1), -3);
        C.due("strain -1", desk.seen(0, 1, -1), -3);
        C.due("strain 100", desk.seen(0, 1, 100), -3);
        C.due("nothing is seen yet", desk.count(6), 0);
        C.due("1", desk.seen(0, 1, 0), 1);
        C.due("2", desk.seen(0, 30, 99), 2);
        for (int i = 3; i <= 6; i++) {
            C.due("seen " + i, desk.seen(1, i, i), i);
        }
        C.due("7", desk.seen(0, 1, 1), -5);
        C.due("7, OUTSIDE", desk.seen(0, 31, 1), -3);
        C.due("7, UNKNOWN", desk.seen(2, 1, 1), -2);
        C.due("six", desk.count(6), 6);
        C.due("seen cannot be undone", desk.count(7), 0);
    }

    private static void forget() {
        QuarrelDesk desk = Checks.told("plain 4 10");
        C.due("forget() of none", desk.forget(), 0);
        desk.seen(0, 1, 99);
        desk.seen(0, 1, 98);
        C.due("none fits", desk.tempers(0), 0);
        C.due("forget()", desk.forget(), 2);
        C.due("forget() again", desk.forget(), 0);
        C.due("any fits", desk.tempers(0), 1022);
        C.due("seen again", desk.seen(0, 1, 1), 1);
    }

    private static void tempers() {
        QuarrelDesk desk = Checks.told("plain 4 10;plain 4 10");
        C.due("all", desk.tempers(0), 1022);
        C.due("tempers(2)", desk.tempers(2), -2);
        C.due("tempers(-1)", desk.tempers(-1), -2);
        desk.seen(0, 1, 11);
        // 1 without a tiff, 7 with one
        C.due("two of them", desk.tempers(0), 2 + 128);
        C.due("of the other all", desk.tempers(1), 1022);
        desk.seen(0, 2, 12);
        // 1: 12 is a tiff, 6; 7: 18 is a tiff, 12
        C.due("both are so with 7 alone", desk.tempers(0), 128);
        desk.seen(1, 1, 8);
        C.due("of the other", desk.tempers(1), 16);
        desk.seen(0, 1, 8);
        C.due("none", desk.tempers(0), 0);
        C.due("its own temper stays", desk.couple(0, 1), 4);
        desk = Checks.told("plain 4 10;tiff 99;break 99");
        desk.seen(0, 9, 91);
        C.due("the greatest", desk.tempers(0), 512);
        desk.forget();
        desk.seen(0, 9, 19);
        C.due("the least", desk.tempers(0), 2);
        desk = Checks.told("sunday 4 10;tiff 99;break 99");
        desk.seen(0, 7, 10 + 8 * 5);
        C.due("as a sunday one", desk.tempers(0), 32);
    }

    private static void tempersFromNow() {
        QuarrelDesk desk = Checks.told("sulky 2 11;proud 3 11");
        desk.seen(0, 1, 16);
        C.due("from day 0", desk.tempers(0), 1 << 5);
        desk.seen(1, 1, 10);
        C.due("from day 0", desk.tempers(1), 1 << 5);
        desk.day();
        // silent a day, 13: 13 + 1 + temper; behind a tiff, 8: 8 + 2 + temper, less 6 behind 12
        C.due("from day 1", desk.tempers(0), 1 << 2);
        C.due("from day 1", desk.tempers(1), 1 << 6);
        desk.undo();
        C.due("from day 0 again", desk.tempers(0), 1 << 5);
        desk.kiss(0);
        C.due("from a kiss", desk.tempers(0), 0);
    }

    private static void odds(QuarrelDesk desk, int n, int q, int above, int below) {
        String call = "mothers(0, " + n + ", " + q + ", ";
        C.due(call + "0)", desk.mothers(0, n, q, 0), above);
        C.due(call + "1)", desk.mothers(0, n, q, 1), below);
    }

    private static void mothers() {
        QuarrelDesk desk = Checks.told("plain 1 20;tiff 99");
        odds(desk, 0, 5, 0, 1);
        odds(desk, 1, 3, 3, 10);
        odds(desk, 1, 5, 1, 2);
        odds(desk, 1, 0, 0, 1);
        odds(desk, 1, 10, 1, 1);
        odds(desk, 2, 5, 3, 4);
        odds(desk, 6, 1, 468559, 1000000);
        odds(desk, 6, 10, 1, 1);
        odds(desk, 6, 0, 0, 1);
        desk = Checks.told("plain 1 10;tiff 99");
        odds(desk, 1, 9, 0, 1);
        odds(desk, 2, 5, 1, 4);
        odds(desk, 3, 5, 1, 2);
        odds(desk, 2, 4, 4, 25);
        odds(desk, 3, 2, 13, 125);
        desk = Checks.told("plain 9 25");
        odds(desk, 1, 0, 1, 1);
        odds(desk, 6, 3, 1, 1);
        // a mother on day 0 alone makes 21: 22, 23; a day later it is day 1
        desk = Checks.told("plain 1 18;tiff 99");
        odds(desk, 1, 5, 0, 1);
        odds(desk, 2, 5, 3, 4);
        desk.day();
        odds(desk, 1, 5, 1, 2);
    }

    private static void mothersRefused() {
        QuarrelDesk desk = Checks.told("plain 1 20");
        C.due("couple 1", desk.mothers(1, 7, 11, 2), -2);
        C.due("couple -1", desk.mothers(-1, 0, 0, 0), -2);
        int[][] outside = {{-1, 0, 0}, {7, 0, 0}, {0, -1, 0}, {0, 11, 0}, {0, 0, -1}, {0, 0, 2}};
        for (int[] row : outside) {
            C.due("mothers outside", desk.mothers(0, row[0], row[1], row[2]), -3);
        }
    }

    private static void count() {
        QuarrelDesk desk = Checks.told("plain 9 25;sulky 2 11;plain 4 10;sulky 1 11;plain 9 21");
        Checks.days(desk, 3);
        desk.seen(0, 1, 1);
        desk.seen(0, 1, 2);
        desk.write('x');
        // tiffs: the broken on day 2, the third on days 0, 1
        int[] due = {5, 3, 999999 - 29 - 25 + 8, 2, 4, 2 + 8, 2, 3, 1};
        for (int i = 0; i < due.length; i++) {
            C.due("count(" + i + ")", desk.count(i), due[i]);
        }
        desk.kiss(1);
        C.due("no longer void", desk.count(5), 8);
        Checks.days(desk, 3);
        desk.erase();
        Checks.written(desk, "desk").desk();
        int[] none = {0, 0, 999999, 0, 0, 0, 0, 0, 0};
        for (int i = 0; i < none.length; i++) {
            C.due("behind desk: count(" + i + ")", desk.count(i), none[i]);
        }
        C.due("count(-1)", desk.count(-1), -3);
        C.due("count(9)", desk.count(9), -3);
    }
}
