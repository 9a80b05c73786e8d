/** Each sentence of the document that names a boundary, promises 22 to 26: one test, with its promise's number. */
public final class EdgesSeenTest {
    private static final Checks C = new Checks();
    private static final int MIN = Integer.MIN_VALUE, MAX = Integer.MAX_VALUE;
    private static final int LIFT = 999999, ANY = 1022;

    public static void main(String[] args) {
        C.runPromises(EdgesSeenTest.class, 22, 26);
        C.end();
    }

    private static void odds(QuarrelDesk desk, int n, int q, int above, int below) {
        String call = "mothers(0, " + n + ", " + q + ", ";
        C.due(call + "0)", desk.mothers(0, n, q, 0), above);
        C.due(call + "1)", desk.mothers(0, n, q, 1), below);
    }

    private static QuarrelDesk sixSeen() {
        QuarrelDesk desk = Checks.told("plain 4 10;sulky 2 11");
        for (int i = 1; i <= 6; i++) {
            C.due("seen " + i, desk.seen(i % 2, i, 50), i);
        }
        return desk;
    }

    // ---- 22: seen

    /** "SEEN, 6 at most", "FULL" */
    static void promise22SixAtMost() {
        QuarrelDesk desk = sixSeen();
        C.refused("a seventh", desk, () -> desk.seen(0, 1, 8), Checks.FULL);
        C.due("SEEN", desk.count(6), 6);
    }

    /** The same, seen again, is one more. */
    static void promise22TheSameAgain() {
        QuarrelDesk desk = Checks.told("plain 4 10");
        for (int i = 1; i <= 6; i++) {
            C.due("seen " + i, desk.seen(0, 1, 8), i);
        }
        C.due("a seventh", desk.seen(0, 1, 8), Checks.FULL);
        C.due("tempers(0)", desk.tempers(0), 1 << 4);
    }

    /** "STRAIN .. would be s (0 .. 99)" */
    static void promise22StrainIs0To99() {
        QuarrelDesk desk = Checks.told("plain 4 10");
        C.due("seen(0, 1, 0)", desk.seen(0, 1, 0), 1);
        C.due("seen(0, 1, 99)", desk.seen(0, 1, 99), 2);
        int[] outside = {-1, 100, MIN, MAX};
        for (int strain : outside) {
            C.refused("seen(0, 1, " + strain + ")", desk, () -> desk.seen(0, 1, strain), Checks.OUTSIDE);
        }
    }

    /** "behind n DAYS (1 .. 30)" */
    static void promise22NIs1To30() {
        QuarrelDesk desk = Checks.told("plain 4 10");
        C.due("seen(0, 1, 5)", desk.seen(0, 1, 5), 1);
        C.due("seen(0, 30, 5)", desk.seen(0, 30, 5), 2);
        int[] outside = {-1, 0, 31, MIN, MAX};
        for (int n : outside) {
            C.refused("seen(0, " + n + ", 5)", desk, () -> desk.seen(0, n, 5), Checks.OUTSIDE);
        }
    }

    static void promise22Unknown() {
        QuarrelDesk desk = Checks.told("plain 4 10");
        int[] none = {-1, 1, 6, MIN, MAX};
        for (int couple : none) {
            C.refused("seen(" + couple + ", 1, 5)", desk, () -> desk.seen(couple, 1, 5), Checks.UNKNOWN);
        }
    }

    static void promise22UnknownIsAheadOfOutside() {
        QuarrelDesk desk = Checks.told("plain 4 10");
        C.due("seen(1, 0, 5)", desk.seen(1, 0, 5), Checks.UNKNOWN);
        C.due("seen(1, 1, 100)", desk.seen(1, 1, 100), Checks.UNKNOWN);
        C.due("seen(-1, 31, -1)", desk.seen(-1, 31, -1), Checks.UNKNOWN);
    }

    static void promise22UnknownIsAheadOfFull() {
        QuarrelDesk desk = sixSeen();
        C.due("seen(2, 1, 5)", desk.seen(2, 1, 5), Checks.UNKNOWN);
        C.due("seen(2, 31, 100)", desk.seen(2, 31, 100), Checks.UNKNOWN);
    }

    static void promise22OutsideIsAheadOfFull() {
        QuarrelDesk desk = sixSeen();
        C.due("seen(0, 0, 5)", desk.seen(0, 0, 5), Checks.OUTSIDE);
        C.due("seen(0, 31, 5)", desk.seen(0, 31, 5), Checks.OUTSIDE);
        C.due("seen(0, 1, 100)", desk.seen(0, 1, 100), Checks.OUTSIDE);
        C.due("seen(0, 1, -1)", desk.seen(0, 1, -1), Checks.OUTSIDE);
    }

    /** "how many": of all COUPLES together */
    static void promise22CountsThoseOfAll() {
        QuarrelDesk desk = Checks.told("plain 4 10;plain 4 10");
        C.due("of the first", desk.seen(0, 1, 5), 1);
        C.due("of the second", desk.seen(1, 1, 5), 2);
    }

    static void promise22FullIsOverBehindForgetAndDesk() {
        QuarrelDesk desk = sixSeen();
        desk.forget();
        C.due("behind forget()", desk.seen(0, 1, 5), 1);
        desk = sixSeen();
        Checks.further(desk, "tiff 9");
        C.due("behind desk()", desk.seen(0, 1, 5), 1);
    }

    static void promise22CannotBeUndone() {
        QuarrelDesk desk = Checks.told("plain 4 10");
        desk.seen(0, 1, 5);
        C.due("undo()", desk.undo(), Checks.NOT);
        C.due("SEEN", desk.count(6), 1);
    }

    // ---- 23: forget

    /** "SEEN is nothing: how many there were" */
    static void promise23OfNone() {
        QuarrelDesk desk = Checks.told("plain 4 10");
        C.asked("forget()", desk, desk::forget, 0);
        C.due("of no couples", new QuarrelDesk().forget(), 0);
    }

    static void promise23OfOneAndOfSix() {
        QuarrelDesk desk = Checks.told("plain 4 10");
        desk.seen(0, 1, 5);
        C.due("forget() of 1", desk.forget(), 1);
        C.due("forget() again", desk.forget(), 0);
        C.due("forget() of 6", sixSeen().forget(), 6);
    }

    static void promise23NothingIsSeenThen() {
        QuarrelDesk desk = sixSeen();
        desk.forget();
        C.due("SEEN", desk.count(6), 0);
        C.due("tempers(0)", desk.tempers(0), ANY);
        C.due("tempers(1)", desk.tempers(1), ANY);
    }

    static void promise23AllElseStays() {
        QuarrelDesk desk = Checks.told("plain 9 25;sulky 2 11");
        Checks.days(desk, 3);
        desk.write('x');
        String before = Checks.all(desk);
        desk.seen(0, 1, 5);
        desk.forget();
        C.due("all as before", Checks.all(desk).equals(before) ? 1 : 0, 1);
    }

    // ---- 24: tempers

    /** "TEMPERS of it (1 .. 9, by bits)": all, when nothing is SEEN of it */
    static void promise24AnyWhenNothingIsSeen() {
        QuarrelDesk desk = Checks.told("plain 4 10;sulky 1 1");
        C.due("tempers(0)", desk.tempers(0), ANY);
        desk.seen(0, 1, 0);
        C.due("of the other", desk.tempers(1), ANY);
    }

    static void promise24EachOf1To9() {
        for (int temper = 1; temper <= 9; temper++) {
            QuarrelDesk desk = Checks.told("plain 5 10;tiff 99;break 99");
            desk.seen(0, 1, 10 + temper);
            C.due("temper " + temper, desk.tempers(0), 1 << temper);
        }
    }

    static void promise24NoneBeside1To9() {
        QuarrelDesk desk = Checks.told("plain 5 10;tiff 99;break 99");
        desk.seen(0, 1, 10);
        C.due("temper 0", desk.tempers(0), 0);
        desk.forget();
        desk.seen(0, 1, 20);
        C.due("temper 10", desk.tempers(0), 0);
    }

    /** "by which all that is SEEN of it would be so" */
    static void promise24AllThatIsSeen() {
        QuarrelDesk desk = Checks.told("plain 4 10");
        desk.seen(0, 1, 11);
        C.due("11 or 17 less 6", desk.tempers(0), 1 << 1 | 1 << 7);
        desk.seen(0, 2, 6);
        C.due("12 less 6", desk.tempers(0), 1 << 1);
        desk.seen(0, 1, 12);
        C.due("none", desk.tempers(0), 0);
    }

    static void promise24ThirtiethDay() {
        QuarrelDesk desk = Checks.told("plain 4 0;tiff 99;break 99");
        desk.seen(0, 30, 30);
        C.due("tempers(0)", desk.tempers(0), 1 << 1);
        desk.forget();
        desk.seen(0, 30, 90);
        C.due("tempers(0)", desk.tempers(0), 1 << 3);
    }

    /** "(now: when TEMPERS is asked, not when it was SEEN)" */
    static void promise24FromWhenItIsAsked() {
        QuarrelDesk desk = Checks.told("plain 4 10;tiff 99;break 99");
        desk.seen(0, 1, 17);
        C.due("on DAY 0", desk.tempers(0), 1 << 7);
        desk.day();
        C.due("on DAY 1", desk.tempers(0), 1 << 3);
        desk.day();
        C.due("on DAY 2", desk.tempers(0), 0);
        desk.undo();
        C.due("undone", desk.tempers(0), 1 << 3);
    }

    static void promise24ByTheTermsThatAre() {
        QuarrelDesk desk = Checks.told("plain 4 10");
        desk.seen(0, 1, 8);
        C.due("14 less 6", desk.tempers(0), 1 << 4);
        desk.change(5, 4);
        C.due("12 less 4", desk.tempers(0), 1 << 2);
    }

    static void promise24OfEachKind() {
        QuarrelDesk desk = Checks.told("proud 3 11;sulky 3 11;sunday 3 11;relief 0;break 99");
        for (int couple = 0; couple < 3; couple++) {
            desk.seen(couple, 2, 11 + 2 * 5 + (couple == 0 ? 2 : couple == 1 ? 1 : 0));
            C.due("tempers(" + couple + ")", desk.tempers(couple), 1 << 5);
        }
        desk.seen(2, 7, 11 + 8 * 5);
        C.due("over a sunday", desk.tempers(2), 1 << 5);
    }

    static void promise24ChangesNothing() {
        QuarrelDesk desk = Checks.told("plain 4 10;sulky 2 11");
        desk.day();
        desk.seen(0, 1, 6);
        C.asked("tempers(0)", desk, () -> desk.tempers(0), 1 << 4);
        C.due("TEMPER", desk.couple(0, 1), 4);
    }

    static void promise24Unknown() {
        QuarrelDesk desk = Checks.told("plain 4 10");
        int[] none = {-1, 1, 6, MIN, MAX};
        for (int couple : none) {
            C.refused("tempers(" + couple + ")", desk, () -> desk.tempers(couple), Checks.UNKNOWN);
        }
    }

    // ---- 25: mothers

    /** "in n DAYS (0 .. 6)" */
    static void promise25NIs0To6() {
        QuarrelDesk desk = Checks.told("plain 1 20;tiff 99");
        odds(desk, 0, 5, 0, 1);
        odds(desk, 6, 5, 63, 64);
        int[] outside = {-1, 7, MIN, MAX};
        for (int n : outside) {
            C.refused("mothers(0, " + n + ", 5, 0)", desk, () -> desk.mothers(0, n, 5, 0), Checks.OUTSIDE);
        }
    }

    /** "by q of ten (0 .. 10)" */
    static void promise25QIs0To10() {
        QuarrelDesk desk = Checks.told("plain 1 20;tiff 99");
        odds(desk, 1, 0, 0, 1);
        odds(desk, 1, 1, 1, 10);
        odds(desk, 1, 9, 9, 10);
        odds(desk, 1, 10, 1, 1);
        int[] outside = {-1, 11, MIN, MAX};
        for (int q : outside) {
            C.refused("mothers(0, 1, " + q + ", 0)", desk, () -> desk.mothers(0, 1, q, 0), Checks.OUTSIDE);
        }
    }

    /** "above (part 0), below (1)" */
    static void promise25PartIs0Or1() {
        QuarrelDesk desk = Checks.told("plain 1 20;tiff 99");
        C.due("above", desk.mothers(0, 1, 3, 0), 3);
        C.due("below", desk.mothers(0, 1, 3, 1), 10);
        int[] outside = {-1, 2, MIN, MAX};
        for (int part : outside) {
            C.refused("mothers(0, 1, 3, " + part + ")", desk, () -> desk.mothers(0, 1, 3, part), Checks.OUTSIDE);
        }
    }

    static void promise25Unknown() {
        QuarrelDesk desk = Checks.told("plain 4 10");
        int[] none = {-1, 1, 6, MIN, MAX};
        for (int couple : none) {
            C.refused("mothers(" + couple + ", 1, 5, 0)", desk, () -> desk.mothers(couple, 1, 5, 0), Checks.UNKNOWN);
        }
    }

    static void promise25UnknownIsAheadOfOutside() {
        QuarrelDesk desk = Checks.told("plain 4 10");
        C.due("mothers(1, 7, 5, 0)", desk.mothers(1, 7, 5, 0), Checks.UNKNOWN);
        C.due("mothers(1, 1, 11, 0)", desk.mothers(1, 1, 11, 0), Checks.UNKNOWN);
        C.due("mothers(-1, 1, 5, 2)", desk.mothers(-1, 1, 5, 2), Checks.UNKNOWN);
    }

    /** "Parts are told in lowest terms" */
    static void promise25InLowestTerms() {
        QuarrelDesk desk = Checks.told("plain 1 20;tiff 99");
        odds(desk, 1, 5, 1, 2);
        odds(desk, 1, 4, 2, 5);
        odds(desk, 2, 5, 3, 4);
        odds(desk, 2, 3, 51, 100);
        odds(desk, 6, 1, 468559, 1000000);
    }

    static void promise25NeverIs0Of1() {
        QuarrelDesk desk = Checks.told("plain 1 0;tiff 99;break 99");
        for (int n = 0; n <= 6; n++) {
            odds(desk, n, 3, 0, 1);
        }
    }

    static void promise25SurelyIs1Of1() {
        QuarrelDesk desk = Checks.told("plain 9 25");
        for (int n = 1; n <= 6; n++) {
            odds(desk, n, 0, 1, 1);
            odds(desk, n, 3, 1, 1);
            odds(desk, n, 10, 1, 1);
        }
        odds(desk, 0, 3, 0, 1);
    }

    /** "on each of them, ahead of all, a MOTHER comes" */
    static void promise25AheadOfTheDay() {
        odds(Checks.told("plain 1 19;tiff 99"), 1, 5, 1, 2);
        odds(Checks.told("plain 1 18;tiff 99"), 1, 5, 0, 1);
        // 18, 19, 29, 30 by two mothers; behind the days it were 9, 19, 20, 30
        odds(Checks.told("plain 1 8;relief 0"), 2, 5, 1, 4);
    }

    /** "its STRAIN is 10 more (99 at most)" */
    static void promise25StrainIs99AtMost() {
        QuarrelDesk desk = Checks.told("plain 1 88;tiff 99;break 99");
        odds(desk, 1, 5, 1, 2);
        odds(desk, 6, 10, 1, 1);
    }

    /** "the odds that one BREAKS": once or more */
    static void promise25OnceOrMore() {
        QuarrelDesk desk = Checks.told("plain 9 25;break 9");
        odds(desk, 6, 5, 1, 1);
    }

    static void promise25FromNow() {
        QuarrelDesk desk = Checks.told("sunday 9 3;tiff 99;break 99");
        Checks.days(desk, 5);
        // 48: 57 and, on the sunday, 75; with mothers on both days 95
        odds(desk, 2, 10, 0, 1);
        desk.change(4, 95);
        odds(desk, 2, 10, 1, 1);
        odds(desk, 2, 5, 1, 4);
        desk.change(4, 96);
        odds(desk, 2, 10, 0, 1);
    }

    static void promise25ChangesNothing() {
        QuarrelDesk desk = Checks.told("plain 9 2;sulky 2 11");
        desk.day();
        int due = desk.mothers(1, 6, 5, 0);
        C.asked("mothers(1, 6, 5, 0)", desk, () -> desk.mothers(1, 6, 5, 0), due);
    }

    // ---- 26: count

    static void promise26WhatIs0To8() {
        QuarrelDesk desk = Checks.told("plain 4 10");
        C.due("count(0)", desk.count(0), 1);
        C.due("count(8)", desk.count(8), 0);
        int[] outside = {-1, 9, MIN, MAX};
        for (int what : outside) {
            C.refused("count(" + what + ")", desk, () -> desk.count(what), Checks.OUTSIDE);
        }
    }

    static void promise26CouplesAreAtMost6() {
        QuarrelDesk desk = new QuarrelDesk();
        for (int i = 1; i <= 6; i++) {
            Checks.further(desk, "plain 1 1");
            C.due("count(0)", desk.count(0), i);
        }
        Checks.written(desk, "plain 1 1").desk();
        C.due("count(0)", desk.count(0), 6);
    }

    static void promise26TheDay() {
        QuarrelDesk desk = new QuarrelDesk();
        C.due("count(1)", desk.count(1), 0);
        desk.day();
        C.due("count(1)", desk.count(1), 1);
    }

    /** "2 BALANCE and 999999" */
    static void promise26BalanceMayBeBelowNothing() {
        QuarrelDesk desk = Checks.told("plain 9 25");
        C.due("nothing", desk.count(2), LIFT);
        desk.day();
        C.due("below", desk.count(2), LIFT - 29);
        QuarrelDesk other = Checks.told("plain 1 11");
        other.day();
        C.due("above", other.count(2), LIFT + 2);
    }

    /** "3 BREAKS of all": those without a claim too */
    static void promise26BreaksOfAll() {
        QuarrelDesk desk = Checks.told("plain 9 25;sunday 9 25;sulky 2 11;plain 1 1");
        desk.day();
        C.due("count(3)", desk.count(3), 2);
        Checks.days(desk, 4);
        C.due("one that is void", desk.couple(2, 5), 1);
        C.due("count(3)", desk.count(3), 3);
    }

    /** "4 TIFFS of all" */
    static void promise26TiffsOfAll() {
        QuarrelDesk desk = Checks.told("plain 1 11;proud 1 11;sunday 1 11;sulky 1 11;plain 1 10");
        desk.day();
        C.due("count(4)", desk.count(4), 3);
    }

    /** "5 those VOID, by bits" */
    static void promise26VoidByBits() {
        QuarrelDesk desk = Checks.told("sulky 1 12;plain 1 1;sulky 1 11;sulky 1 10;plain 1 1;sulky 1 12");
        Checks.days(desk, 2);
        C.due("count(5)", desk.count(5), 0);
        desk.day();
        C.due("count(5)", desk.count(5), 1 + 4 + 32);
        desk.day();
        C.due("count(5)", desk.count(5), 1 + 4 + 8 + 32);
        desk.kiss(0);
        C.due("count(5)", desk.count(5), 4 + 8 + 32);
    }

    static void promise26SeenAreAtMost6() {
        QuarrelDesk desk = sixSeen();
        C.due("count(6)", desk.count(6), 6);
        desk.seen(0, 1, 1);
        C.due("count(6)", desk.count(6), 6);
    }

    static void promise26UndoneAreAtMost8() {
        QuarrelDesk desk = new QuarrelDesk();
        for (int i = 1; i <= 12; i++) {
            desk.day();
            C.due("count(7)", desk.count(7), Math.min(8, i));
        }
        desk.undo();
        C.due("count(7)", desk.count(7), 7);
    }

    static void promise26LettersAreAtMost160() {
        QuarrelDesk desk = Checks.written(new QuarrelDesk(), " ".repeat(161));
        C.due("count(8)", desk.count(8), 160);
        desk.erase();
        C.due("count(8)", desk.count(8), 0);
    }
}
