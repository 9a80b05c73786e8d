/** Each sentence of the document that names a boundary, promises 9 to 15: one test, with its promise's number. */
public final class EdgesDaysTest {
    private static final Checks C = new Checks();
    private static final int MIN = Integer.MIN_VALUE, MAX = Integer.MAX_VALUE;
    private static final int STRAIN = 2, SILENT = 3, VOID = 4, BREAKS = 5, TIFFS = 6, PAID = 7, CLAIMED = 8, LAST = 9;
    private static final int[] FIRST = {5, 40, 2, 12, 30, 6};
    private static final int[] LEAST = {0, 0, 0, 1, 1, 0};
    private static final int[] MOST = {50, 99, 50, 99, 99, 20};

    public static void main(String[] args) {
        C.runPromises(EdgesDaysTest.class, 9, 15);
        C.end();
    }

    private static QuarrelDesk behind(int days, String text) {
        QuarrelDesk desk = Checks.told(text);
        Checks.days(desk, days);
        return desk;
    }

    /** A part of couple 0 behind days. */
    private static void part(String text, int days, int what, int due) {
        C.due("'" + text + "' behind " + days + " days: couple(0, " + what + ")", behind(days, text).couple(0, what), due);
    }

    private static void changes(QuarrelDesk desk, int many) {
        for (int i = 1; i <= many; i++) {
            desk.change(0, i);
        }
    }

    // ---- 9: day

    static void promise9StrainIsMoreByTemper() {
        part("plain 1 0", 1, STRAIN, 1);
        part("plain 9 0", 1, STRAIN, 9);
        part("plain 9 2", 1, STRAIN, 11);
    }

    /** "its STRAIN is more by its GAIN (99 at most)" */
    static void promise9StrainIs99AtMost() {
        part("plain 1 98;break 99;cover 99;excess 0", 1, CLAIMED, 99);
        part("plain 1 99;break 99;cover 99;excess 0", 1, CLAIMED, 99);
        part("plain 9 99;break 99;cover 99;excess 0", 1, CLAIMED, 99);
    }

    /** "of a PROUD one 2 more, if it had a TIFF the DAY before" */
    static void promise9ProudBehindATiff() {
        part("proud 3 11;tiff 14;relief 0", 1, STRAIN, 14);
        part("proud 3 11;tiff 14;relief 0", 2, STRAIN, 19);
        part("proud 3 11;tiff 15;relief 0", 2, STRAIN, 17);
    }

    static void promise9ProudTwoDaysBehindATiff() {
        part("proud 1 11;relief 20", 1, STRAIN, 0);
        part("proud 1 11;relief 20", 2, STRAIN, 3);
        part("proud 1 11;relief 20", 3, STRAIN, 4);
    }

    static void promise9ProudBehindABreak() {
        // 27 a tiff, 38 broke
        part("proud 9 18;relief 0", 1, TIFFS, 1);
        part("proud 9 18;relief 0", 2, BREAKS, 1);
        part("proud 9 18;relief 0", 3, STRAIN, 9);
    }

    static void promise9ProudOnDay0() {
        part("proud 3 40;break 99", 1, STRAIN, 37);
    }

    /** "of a SUNDAY one twice TEMPER on SUNDAYS" */
    static void promise9SundayOnSundaysAlone() {
        String text = "sunday 4 0;tiff 99;break 99";
        int[] strains = {0, 4, 8, 12, 16, 20, 24, 32, 36, 40, 44, 48, 52, 56, 64, 68};
        for (int days = 0; days < strains.length; days++) {
            part(text, days, STRAIN, strains[days]);
        }
    }

    static void promise9SundaysAreDaysForOthers() {
        part("plain 4 0;tiff 99;break 99", 14, STRAIN, 56);
        part("proud 4 0;tiff 99;break 99", 14, STRAIN, 56);
        part("sulky 4 0;tiff 99;break 99", 14, STRAIN, 56);
    }

    /** "of a SULKY one 1 more for each DAY that it is SILENT" */
    static void promise9SulkyByDaysOfSilence() {
        int[] strains = {11, 13, 16, 20, 25, 31, 38};
        for (int days = 0; days < strains.length; days++) {
            part("sulky 2 11;break 99", days, STRAIN, strains[days]);
        }
    }

    /** "Is STRAIN BREAK or more: it is a BREAK" */
    static void promise9BreakAtTheLimit() {
        part("plain 9 20", 1, BREAKS, 0);
        part("plain 9 21", 1, BREAKS, 1);
        part("plain 9 22", 1, BREAKS, 1);
    }

    static void promise9BreakLimitAtItsBounds() {
        part("plain 1 0;break 1", 1, BREAKS, 1);
        part("plain 1 97;break 99", 1, BREAKS, 0);
        part("plain 1 98;break 99", 1, BREAKS, 1);
    }

    /** "Else, is it TIFF or more": a BREAK is no TIFF, even at the same limit or below it */
    static void promise9BreakIsAheadOfTiff() {
        part("plain 9 3;break 12", 1, BREAKS, 1);
        part("plain 9 3;break 12", 1, TIFFS, 0);
        part("plain 9 3;break 12", 1, PAID, 0);
        part("plain 9 3;break 11", 1, BREAKS, 1);
        part("plain 9 3;break 11", 1, TIFFS, 0);
        part("plain 9 2;break 11;tiff 99", 1, BREAKS, 1);
    }

    /** "the lesser of STRAIN and COVER" */
    static void promise9ClaimsTheLesserOfStrainAndCover() {
        part("plain 9 25;excess 0;cover 33", 1, CLAIMED, 33);
        part("plain 9 25;excess 0;cover 34", 1, CLAIMED, 34);
        part("plain 9 25;excess 0;cover 35", 1, CLAIMED, 34);
        part("plain 9 25;excess 0;cover 0", 1, CLAIMED, 0);
    }

    /** "less EXCESS (0 at least)" */
    static void promise9ClaimsNothingBelowExcess() {
        part("plain 9 25;excess 33", 1, CLAIMED, 1);
        part("plain 9 25;excess 34", 1, CLAIMED, 0);
        part("plain 9 25;excess 35", 1, CLAIMED, 0);
        part("plain 9 25;excess 50", 1, CLAIMED, 0);
        part("plain 9 25;excess 5;cover 4", 1, CLAIMED, 0);
        part("plain 9 25;excess 5;cover 6", 1, CLAIMED, 1);
        C.due("BALANCE", behind(1, "plain 9 25;excess 50").count(2), 999999);
    }

    /** "nothing, if it is VOID" */
    static void promise9ClaimsNothingWhenVoid() {
        part("sulky 2 11", 5, VOID, 1);
        part("sulky 2 11", 5, BREAKS, 1);
        part("sulky 2 11", 5, CLAIMED, 0);
        // 17, 24, and 32 ahead of a third day of silence
        part("sulky 6 11", 2, VOID, 0);
        part("sulky 6 11", 3, BREAKS, 1);
        part("sulky 6 11", 3, CLAIMED, 27);
    }

    /** "nothing .. of a SUNDAY one on other DAYS" */
    static void promise9SundayClaimsOnSundaysAlone() {
        // it breaks on day 5, on day 6, on day 7
        part("sunday 5 0;tiff 99", 6, BREAKS, 1);
        part("sunday 5 0;tiff 99", 6, CLAIMED, 0);
        part("sunday 4 0;tiff 99", 7, BREAKS, 1);
        part("sunday 4 0;tiff 99", 7, CLAIMED, 27);
        part("sunday 3 3;tiff 99", 7, BREAKS, 0);
        part("sunday 3 3;tiff 99", 8, BREAKS, 1);
        part("sunday 3 3;tiff 99", 8, CLAIMED, 0);
    }

    static void promise9SundayBreaksAllTheSame() {
        QuarrelDesk desk = Checks.told("sunday 9 21");
        C.due("day()", desk.day(), 1);
        C.dueOf("broken", desk, 0, 0, 0, 0, 1, 0, 0, 0, 0);
    }

    static void promise9OthersClaimOnAnyDay() {
        part("plain 9 25", 1, CLAIMED, 29);
        part("proud 9 25", 1, CLAIMED, 29);
        part("sulky 9 25", 1, CLAIMED, 29);
        part("plain 5 0;tiff 99", 6, CLAIMED, 25);
    }

    /** "THE DESK pays that" */
    static void promise9DeskPaysWhatIsClaimed() {
        C.due("BALANCE", behind(1, "plain 9 25;plain 9 21").count(2), 999999 - 29 - 25);
    }

    /** "STRAIN is 0; it is not SILENT" */
    static void promise9BrokenItIsWithoutStrainAndNotSilent() {
        part("sulky 2 11", 4, SILENT, 4);
        part("sulky 2 11", 5, SILENT, 0);
        part("sulky 2 11", 5, STRAIN, 0);
        part("sulky 2 11", 6, STRAIN, 2);
    }

    /** VOID ends with a KISS, not with a BREAK. */
    static void promise9BrokenItIsVoidYet() {
        part("sulky 2 11", 5, VOID, 1);
        part("sulky 9 3;break 50", 4, BREAKS, 0);
        part("sulky 9 3;break 50", 5, BREAKS, 1);
        part("sulky 9 3;break 50", 12, CLAIMED, 0);
    }

    /** "is it TIFF or more" */
    static void promise9TiffAtTheLimit() {
        part("plain 1 10", 1, TIFFS, 0);
        part("plain 1 11", 1, TIFFS, 1);
        part("plain 1 12", 1, TIFFS, 1);
        part("plain 1 0;tiff 1", 1, TIFFS, 1);
        part("plain 1 97;tiff 99;break 99", 1, TIFFS, 0);
    }

    static void promise9SilenceAtTheLimit() {
        part("sulky 1 10", 1, SILENT, 0);
        part("sulky 1 11", 1, SILENT, 1);
        part("sulky 1 12", 1, SILENT, 1);
    }

    /** "if that is 3, it is VOID" */
    static void promise9VoidOnTheThirdDayOfSilence() {
        part("sulky 1 12", 2, SILENT, 2);
        part("sulky 1 12", 2, VOID, 0);
        part("sulky 1 12", 3, SILENT, 3);
        part("sulky 1 12", 3, VOID, 1);
        part("sulky 1 12", 4, SILENT, 4);
        part("sulky 1 12", 4, VOID, 1);
    }

    static void promise9SilenceThatStoppedBeginsAgain() {
        QuarrelDesk desk = behind(2, "sulky 1 12");
        desk.change(3, 99);
        desk.day();
        C.due("SILENT", desk.couple(0, SILENT), 0);
        desk.change(3, 12);
        Checks.days(desk, 2);
        C.due("SILENT", desk.couple(0, SILENT), 2);
        C.due("VOID", desk.couple(0, VOID), 0);
        desk.day();
        C.due("VOID", desk.couple(0, VOID), 1);
    }

    /** "any other one has a TIFF": a SULKY one has none, pays nothing, its STRAIN is not less */
    static void promise9SulkyHasNoTiff() {
        C.dueOf("in silence", behind(1, "sulky 9 11"), 0, 20, 1, 0, 0, 0, 0, 0, Checks.NONE);
    }

    static void promise9OthersAreNeverSilent() {
        part("plain 1 12;relief 0", 3, SILENT, 0);
        part("proud 1 12;relief 0", 3, SILENT, 0);
        part("sunday 1 12;relief 0", 3, SILENT, 0);
        part("plain 1 12;relief 0", 3, VOID, 0);
        part("sunday 1 12;relief 0", 3, TIFFS, 3);
    }

    /** "it pays PREMIUM" */
    static void promise9PaysThePremium() {
        part("plain 1 11;premium 0", 1, PAID, 0);
        part("plain 1 11;premium 1", 1, PAID, 1);
        part("plain 1 11;premium 50", 1, PAID, 50);
        C.due("BALANCE", behind(1, "plain 1 11;sunday 1 11;premium 50").count(2), 999999 + 100);
    }

    /** "half of it (cut)" */
    static void promise9HalfIsCut() {
        int[][] halves = {{0, 0}, {1, 0}, {2, 1}, {3, 1}, {49, 24}, {50, 25}};
        for (int[] row : halves) {
            QuarrelDesk desk = behind(10, "plain 1 1;tiff 12;premium " + row[0]);
            C.due("nothing yet", desk.couple(0, PAID), 0);
            desk.day();
            C.due("half of " + row[0], desk.couple(0, PAID), row[1]);
        }
    }

    /** "or it had none and it is DAY 10 or later" */
    static void promise9HalfFromDay10WithoutABreak() {
        int[][] rows = {{8, 8}, {9, 8}, {10, 4}, {11, 4}, {60, 4}};
        for (int[] row : rows) {
            QuarrelDesk desk = behind(row[0], "plain 6 0;tiff 6;premium 8");
            int before = desk.couple(0, PAID);
            desk.day();
            C.due("on DAY " + row[0], desk.couple(0, PAID) - before, row[1]);
        }
    }

    /** "if its last BREAK is 10 DAYS ago or more" */
    static void promise9HalfTenDaysBehindABreak() {
        int[] breaks = {0, 1, 11};
        for (int day : breaks) {
            QuarrelDesk desk = behind(day, "plain 9 0;tiff 9;premium 8;relief 9");
            for (int i = 0; i < 3; i++) {
                desk.mother(0);
            }
            C.due("it breaks", desk.day(), 1);
            Checks.days(desk, 8);
            int before = desk.couple(0, PAID);
            desk.day();
            C.due("9 days ago", desk.couple(0, PAID) - before, 8);
            desk.day();
            C.due("10 days ago", desk.couple(0, PAID) - before, 8 + 4);
            desk.day();
            C.due("11 days ago", desk.couple(0, PAID) - before, 8 + 4 + 4);
        }
    }

    /** "its last BREAK": not the first */
    static void promise9HalfCountsFromTheLastBreak() {
        QuarrelDesk desk = behind(5, "plain 9 21;tiff 9;premium 8;relief 9");
        for (int i = 0; i < 3; i++) {
            desk.mother(0);
        }
        C.due("it breaks again", desk.day(), 1);
        int before = desk.couple(0, PAID);
        Checks.days(desk, 9);
        C.due("9 days at full", desk.couple(0, PAID) - before, 72);
        desk.day();
        C.due("the tenth is half", desk.couple(0, PAID) - before, 76);
    }

    /** "STRAIN is RELIEF less (0 at least)" */
    static void promise9ReliefLeaves0AtLeast() {
        part("plain 1 11;relief 11", 1, STRAIN, 1);
        part("plain 1 11;relief 12", 1, STRAIN, 0);
        part("plain 1 11;relief 13", 1, STRAIN, 0);
        part("plain 1 11;relief 20", 1, STRAIN, 0);
        part("plain 1 11;relief 0", 1, STRAIN, 12);
    }

    /** "Else it is not SILENT" */
    static void promise9BelowTiffItIsNotSilent() {
        QuarrelDesk desk = behind(2, "sulky 1 12");
        C.due("SILENT", desk.couple(0, SILENT), 2);
        desk.change(3, 99);
        desk.day();
        C.due("SILENT", desk.couple(0, SILENT), 0);
        C.due("GAIN", desk.as(0, 4), 1);
    }

    /** "Else it is not SILENT": but VOID yet */
    static void promise9BelowTiffItIsVoidYet() {
        QuarrelDesk desk = behind(3, "sulky 1 12");
        desk.change(3, 99);
        desk.day();
        C.due("SILENT", desk.couple(0, SILENT), 0);
        C.due("VOID", desk.couple(0, VOID), 1);
    }

    /** "Then it is the next DAY" */
    static void promise9ThenItIsTheNextDay() {
        QuarrelDesk desk = new QuarrelDesk();
        for (int day = 0; day < 100; day++) {
            C.due("DAY", desk.count(1), day);
            C.due("day() of no couples", desk.day(), 0);
        }
    }

    /** "COUPLES that BROKE, by bits" */
    static void promise9BrokeByBits() {
        C.due("none", Checks.told("plain 1 1;plain 1 1").day(), 0);
        C.due("the first", Checks.told("plain 9 25;plain 1 1").day(), 1);
        String five = "plain 1 1;plain 1 1;plain 1 1;plain 1 1;plain 1 1";
        C.due("the sixth", Checks.told(five + ";sulky 9 25").day(), 32);
        C.due("all", Checks.told(five + ";sunday 1 1;tiff 1;break 1").day(), 63);
    }

    /** "FULL: it is DAY 999"; beyond the 512 calls that are promised, but it is as the promise says */
    static void promise9FullOnDay999() {
        QuarrelDesk desk = behind(998, "plain 1 0");
        C.due("day() on DAY 998", desk.day(), 0);
        C.due("DAY", desk.count(1), 999);
        C.refused("day() on DAY 999", desk, desk::day, Checks.FULL);
        C.due("undo()", desk.undo(), 7);
        C.due("DAY", desk.count(1), 998);
        C.due("day() on DAY 998", desk.day(), 0);
    }

    // ---- 10: kiss

    /** "STRAIN of a COUPLE is half, cut" */
    static void promise10HalfIsCut() {
        int[][] halves = {{0, 0}, {1, 0}, {2, 1}, {3, 1}, {98, 49}, {99, 49}};
        for (int[] row : halves) {
            QuarrelDesk desk = Checks.told("plain 1 " + row[0]);
            C.due("kiss(0) of " + row[0], desk.kiss(0), row[1]);
            C.due("STRAIN", desk.couple(0, STRAIN), row[1]);
        }
    }

    /** "it is not SILENT, not VOID" */
    static void promise10NotSilentNotVoid() {
        QuarrelDesk desk = behind(4, "sulky 2 11");
        C.due("VOID", desk.couple(0, VOID), 1);
        desk.kiss(0);
        C.due("SILENT", desk.couple(0, SILENT), 0);
        C.due("VOID", desk.couple(0, VOID), 0);
        C.due("GAIN", desk.as(0, 4), 2);
    }

    static void promise10ClaimsAgainBehindAKiss() {
        QuarrelDesk desk = behind(3, "sulky 2 11");
        desk.kiss(0);
        desk.mother(0);
        desk.mother(0);
        C.due("day()", desk.day(), 1);
        C.due("CLAIMED", desk.couple(0, CLAIMED), 27);
    }

    static void promise10AllElseOfItStays() {
        QuarrelDesk desk = behind(4, "plain 9 25;proud 3 11");
        desk.kiss(0);
        C.dueOf("kissed", desk, 0, 7, 0, 0, 1, 2, 4, 29, 0);
        QuarrelDesk proud = behind(1, "proud 3 11");
        proud.kiss(0);
        C.due("a tiff the day before", proud.as(0, 2), 5);
        C.due("DAY", proud.count(1), 1);
    }

    static void promise10OthersStay() {
        QuarrelDesk desk = behind(3, "sulky 2 11;sulky 2 11");
        desk.kiss(1);
        C.dueOf("not kissed", desk, 0, 20, 3, 1, 0, 0, 0, 0, Checks.NONE);
        C.dueOf("kissed", desk, 1, 10, 0, 0, 0, 0, 0, 0, Checks.NONE);
    }

    static void promise10Unknown() {
        QuarrelDesk desk = Checks.told("plain 4 10;plain 4 10");
        C.due("kiss(1)", desk.kiss(1), 5);
        int[] none = {-1, 2, 6, MIN, MAX};
        for (int couple : none) {
            C.refused("kiss(" + couple + ")", desk, () -> desk.kiss(couple), Checks.UNKNOWN);
        }
    }

    static void promise10UnknownOfNoCouples() {
        QuarrelDesk desk = new QuarrelDesk();
        C.refused("kiss(0)", desk, () -> desk.kiss(0), Checks.UNKNOWN);
    }

    // ---- 11: mother

    /** "its STRAIN is 10 more (99 at most)" */
    static void promise11Is99AtMost() {
        int[][] rows = {{0, 10}, {88, 98}, {89, 99}, {90, 99}, {99, 99}};
        for (int[] row : rows) {
            QuarrelDesk desk = Checks.told("plain 1 " + row[0]);
            C.due("mother(0) of " + row[0], desk.mother(0), row[1]);
            C.due("STRAIN", desk.couple(0, STRAIN), row[1]);
        }
    }

    /** A MOTHER brings no BREAK, no TIFF by herself: these are of a DAY. */
    static void promise11AllElseStays() {
        QuarrelDesk desk = behind(3, "sulky 2 11;plain 4 25;plain 4 8");
        desk.mother(0);
        desk.mother(1);
        C.dueOf("silent, void yet", desk, 0, 30, 3, 1, 0, 0, 0, 0, Checks.NONE);
        C.dueOf("29 and 27 with tiffs, 25, over BREAK now", desk, 1, 29, 0, 0, 0, 3, 6, 0, Checks.NONE);
        C.due("not visited", desk.couple(2, STRAIN), 8);
        C.due("DAY", desk.count(1), 3);
    }

    static void promise11Unknown() {
        QuarrelDesk desk = Checks.told("plain 4 10;plain 4 10");
        C.due("mother(1)", desk.mother(1), 20);
        int[] none = {-1, 2, 6, MIN, MAX};
        for (int couple : none) {
            C.refused("mother(" + couple + ")", desk, () -> desk.mother(couple), Checks.UNKNOWN);
        }
    }

    // ---- 12: change

    /** "A TERM (0 .. 5)" */
    static void promise12WhatIs0To5() {
        QuarrelDesk desk = new QuarrelDesk();
        C.due("change(0, 5)", desk.change(0, 5), 5);
        C.due("change(5, 6)", desk.change(5, 6), 6);
        int[] outside = {-1, 6, MIN, MAX};
        for (int what : outside) {
            C.refused("change(" + what + ", 5)", desk, () -> desk.change(what, 5), Checks.OUTSIDE);
        }
    }

    /** "becomes n, as in a text": within its bounds */
    static void promise12WithinTheBoundsOfEachTerm() {
        for (int i = 0; i < 6; i++) {
            int what = i;
            QuarrelDesk desk = new QuarrelDesk();
            C.refused("too little", desk, () -> desk.change(what, LEAST[what] - 1), Checks.OUTSIDE);
            C.refused("too much", desk, () -> desk.change(what, MOST[what] + 1), Checks.OUTSIDE);
            C.refused("MIN", desk, () -> desk.change(what, MIN), Checks.OUTSIDE);
            C.refused("MAX", desk, () -> desk.change(what, MAX), Checks.OUTSIDE);
            C.due("the least", desk.change(what, LEAST[what]), FIRST[what]);
            C.due("the most", desk.change(what, MOST[what]), LEAST[what]);
            C.due("is the most", desk.term(what), MOST[what]);
        }
    }

    static void promise12BothOutside() {
        QuarrelDesk desk = new QuarrelDesk();
        C.refused("change(6, 100)", desk, () -> desk.change(6, 100), Checks.OUTSIDE);
        C.refused("change(-1, -1)", desk, () -> desk.change(-1, -1), Checks.OUTSIDE);
    }

    /** "what it was" */
    static void promise12TellsWhatItWas() {
        QuarrelDesk desk = Checks.told("cover 33");
        C.due("as told", desk.change(1, 44), 33);
        C.due("as changed", desk.change(1, 44), 44);
        C.due("to the same", desk.change(1, 55), 44);
    }

    static void promise12OneTermAlone() {
        for (int i = 0; i < 6; i++) {
            QuarrelDesk desk = new QuarrelDesk();
            desk.change(i, 7);
            for (int other = 0; other < 6; other++) {
                C.due("term(" + other + ")", desk.term(other), other == i ? 7 : FIRST[other]);
            }
        }
    }

    /** What is over the limit now BREAKS on the next DAY, not ahead of it. */
    static void promise12CouplesStayTillTheNextDay() {
        QuarrelDesk desk = Checks.told("plain 1 20");
        desk.change(4, 1);
        C.due("BREAKS", desk.couple(0, BREAKS), 0);
        C.due("STRAIN", desk.couple(0, STRAIN), 20);
        C.due("day()", desk.day(), 1);
    }

    /** What was PAID and CLAIMED before stays as it was. */
    static void promise12IsForDaysToCome() {
        QuarrelDesk desk = behind(1, "plain 9 25;plain 1 11");
        desk.change(0, 0);
        desk.change(2, 50);
        C.due("CLAIMED", desk.couple(0, CLAIMED), 29);
        C.due("PAID", desk.couple(1, PAID), 2);
        C.due("BALANCE", desk.count(2), 999999 - 27);
    }

    // ---- 13: undo

    /** "NOT: none" */
    static void promise13NotWhenNone() {
        QuarrelDesk desk = Checks.told("plain 4 10");
        C.refused("undo()", desk, desk::undo, Checks.NOT);
        desk.day();
        C.due("undo()", desk.undo(), 0);
        C.refused("undo() again", desk, desk::undo, Checks.NOT);
    }

    /** "the last 8 can be" */
    static void promise13EightCanBe() {
        for (int many = 7; many <= 10; many++) {
            QuarrelDesk desk = new QuarrelDesk();
            changes(desk, many);
            int can = Math.min(8, many);
            C.due("count(7) behind " + many, desk.count(7), can);
            for (int i = 1; i <= can; i++) {
                C.due("undo()", desk.undo(), can - i);
                C.due("EXCESS", desk.term(0), many - i == 0 ? 5 : many - i);
            }
            C.due("undo() of one more", desk.undo(), Checks.NOT);
        }
    }

    static void promise13TheEighthOfMany() {
        QuarrelDesk desk = new QuarrelDesk();
        changes(desk, 50);
        for (int i = 7; i >= 0; i--) {
            C.due("undo()", desk.undo(), i);
        }
        C.due("EXCESS", desk.term(0), 42);
        C.due("undo()", desk.undo(), Checks.NOT);
    }

    static void promise13AgainBehindUndone() {
        QuarrelDesk desk = new QuarrelDesk();
        changes(desk, 11);
        desk.undo();
        desk.undo();
        desk.change(0, 31);
        desk.change(0, 32);
        desk.change(0, 33);
        int[] excess = {32, 31, 9, 8, 7, 6, 5, 4};
        C.due("count(7)", desk.count(7), 8);
        for (int i = 0; i < 8; i++) {
            C.due("undo()", desk.undo(), 7 - i);
            C.due("EXCESS", desk.term(0), excess[i]);
        }
        C.due("undo()", desk.undo(), Checks.NOT);
    }

    /** "also one by which nothing became other" */
    static void promise13AlsoWhatMadeNothingOther() {
        QuarrelDesk desk = Checks.told("plain 1 0;plain 1 99");
        desk.kiss(0);
        C.due("a kiss of one without strain", desk.count(7), 1);
        desk.mother(1);
        C.due("a mother of one at 99", desk.count(7), 2);
        desk.change(0, 5);
        C.due("a change to what it is", desk.count(7), 3);
        C.due("undo()", desk.undo(), 2);
        C.due("undo()", desk.undo(), 1);
        C.due("undo()", desk.undo(), 0);
        C.due("undo()", desk.undo(), Checks.NOT);
    }

    static void promise13DayWithoutCouples() {
        QuarrelDesk desk = new QuarrelDesk();
        desk.day();
        C.due("undo()", desk.undo(), 0);
        C.due("DAY", desk.count(1), 0);
    }

    /** "Refused, and nothing changes": it is not among what can be undone */
    static void promise13NotWhatWasRefused() {
        QuarrelDesk desk = Checks.told("plain 4 10");
        desk.kiss(1);
        desk.mother(-1);
        desk.change(0, 51);
        desk.change(6, 5);
        C.due("undo()", desk.undo(), Checks.NOT);
    }

    /** "The latest day(), kiss(), mother(), change()": no other call */
    static void promise13NoOtherCalls() {
        QuarrelDesk desk = Checks.told("plain 4 10");
        desk.day();
        desk.write('x');
        desk.erase();
        desk.seen(0, 1, 1);
        desk.forget();
        desk.keep(0);
        desk.balance(60);
        desk.kissOn(0, 30);
        C.due("undo()", desk.undo(), 0);
        C.due("DAY", desk.count(1), 0);
    }

    static void promise13TheLatestOfEachSort() {
        QuarrelDesk desk = Checks.told("plain 4 10");
        String first = Checks.all(desk);
        desk.mother(0);
        String second = Checks.all(desk);
        desk.day();
        String third = Checks.all(desk);
        desk.change(4, 9);
        String fourth = Checks.all(desk);
        desk.kiss(0);
        String[] before = {fourth, third, second, first};
        for (String due : before) {
            desk.undo();
            C.due("as it was", Checks.all(desk).equals(due) ? 1 : 0, 1);
        }
    }

    /** All that a DAY changes is undone: SILENT, VOID, the TIFF of the DAY before, the last BREAK, the sums. */
    static void promise13WholeDays() {
        QuarrelDesk desk = Checks.told("plain 9 25;sulky 2 11;proud 9 11;sunday 9 21");
        String[] before = new String[7];
        for (int i = 0; i < 7; i++) {
            before[i] = Checks.all(desk);
            desk.day();
        }
        for (int i = 6; i >= 0; i--) {
            desk.undo();
            C.due("day " + i, Checks.all(desk).equals(before[i]) ? 1 : 0, 1);
        }
    }

    static void promise13LeavesTheTextAndSeen() {
        QuarrelDesk desk = behind(1, "plain 4 10");
        desk.seen(0, 1, 1);
        desk.write('x');
        desk.undo();
        C.due("SEEN", desk.count(6), 1);
        C.due("THE TEXT", desk.count(8), 1);
    }

    static void promise13LeavesWhatIsKept() {
        QuarrelDesk desk = behind(2, "plain 4 10");
        desk.keep(0);
        desk.undo();
        desk.undo();
        C.due("back(0)", desk.back(0), 2);
    }

    // ---- 14: keep

    /** "(k 0, 1)", "UNKNOWN: no such k" */
    static void promise14KIs0Or1() {
        QuarrelDesk desk = Checks.told("plain 4 10");
        C.due("keep(0)", desk.keep(0), 0);
        C.due("keep(1)", desk.keep(1), 0);
        int[] unknown = {-1, 2, MIN, MAX};
        for (int k : unknown) {
            C.refused("keep(" + k + ")", desk, () -> desk.keep(k), Checks.UNKNOWN);
        }
    }

    /** "the DAY" */
    static void promise14TellsTheDay() {
        QuarrelDesk desk = new QuarrelDesk();
        C.due("keep(0) on DAY 0", desk.keep(0), 0);
        Checks.days(desk, 100);
        C.due("keep(0) on DAY 100", desk.keep(0), 100);
    }

    static void promise14ChangesNothingElse() {
        QuarrelDesk desk = behind(3, "plain 9 25;sulky 2 11");
        C.asked("keep(0)", desk, () -> desk.keep(0), 3);
    }

    static void promise14TheTwoAreApart() {
        QuarrelDesk desk = behind(1, "plain 4 10");
        desk.keep(1);
        desk.day();
        desk.keep(0);
        desk.day();
        C.due("back(1)", desk.back(1), 1);
        C.due("STRAIN", desk.couple(0, STRAIN), 8);
        C.due("back(0)", desk.back(0), 2);
        C.due("STRAIN", desk.couple(0, STRAIN), 6);
    }

    static void promise14TheLaterIsKept() {
        QuarrelDesk desk = behind(1, "plain 4 10");
        desk.keep(0);
        desk.day();
        desk.keep(0);
        desk.day();
        C.due("back(0)", desk.back(0), 2);
    }

    // ---- 15: back

    static void promise15UnknownK() {
        QuarrelDesk desk = behind(2, "plain 4 10");
        desk.keep(0);
        desk.keep(1);
        int[] unknown = {-1, 2, MIN, MAX};
        for (int k : unknown) {
            C.refused("back(" + k + ")", desk, () -> desk.back(k), Checks.UNKNOWN);
        }
    }

    static void promise15UnknownIsAheadOfNot() {
        QuarrelDesk desk = new QuarrelDesk();
        C.due("back(2)", desk.back(2), Checks.UNKNOWN);
        C.due("back(-1)", desk.back(-1), Checks.UNKNOWN);
    }

    /** "NOT: nothing was kept since the last text" */
    static void promise15NotWhenNothingWasKept() {
        QuarrelDesk desk = behind(2, "plain 4 10");
        C.refused("back(0)", desk, () -> desk.back(0), Checks.NOT);
        C.refused("back(1)", desk, () -> desk.back(1), Checks.NOT);
    }

    static void promise15NotWhenOnlyTheOtherWasKept() {
        QuarrelDesk desk = behind(2, "plain 4 10");
        desk.keep(0);
        C.refused("back(1)", desk, () -> desk.back(1), Checks.NOT);
        QuarrelDesk other = behind(2, "plain 4 10");
        other.keep(1);
        C.refused("back(0)", other, () -> other.back(0), Checks.NOT);
    }

    static void promise15NotBehindAText() {
        QuarrelDesk desk = behind(2, "plain 4 10");
        desk.keep(0);
        desk.keep(1);
        Checks.further(desk, "desk");
        C.refused("back(0)", desk, () -> desk.back(0), Checks.NOT);
        C.refused("back(1)", desk, () -> desk.back(1), Checks.NOT);
        desk.keep(1);
        C.due("kept since", desk.back(1), 0);
    }

    static void promise15NotByATextWithAFaultOrErased() {
        QuarrelDesk desk = behind(2, "plain 4 10");
        desk.keep(0);
        Checks.written(desk, "tiff 0").desk();
        C.due("behind a fault", desk.back(0), 2);
        desk.erase();
        C.due("behind erase()", desk.back(0), 2);
        Checks.written(desk, "desk");
        C.due("behind letters", desk.back(0), 2);
    }

    /** "nothing can be undone" */
    static void promise15NothingCanBeUndone() {
        QuarrelDesk desk = behind(9, "plain 4 10");
        desk.keep(0);
        C.due("count(7)", desk.count(7), 8);
        desk.back(0);
        C.due("count(7)", desk.count(7), 0);
        C.due("undo()", desk.undo(), Checks.NOT);
        desk.day();
        C.due("count(7)", desk.count(7), 1);
        C.due("undo()", desk.undo(), 0);
        C.due("DAY", desk.count(1), 9);
    }

    /** "It is as it was kept": TERMS and all of each COUPLE */
    static void promise15AllIsAsItWasKept() {
        QuarrelDesk desk = Checks.told("plain 9 25;sulky 2 11;proud 9 11;sunday 9 21");
        Checks.days(desk, 2);
        desk.change(3, 13);
        desk.keep(0);
        desk.back(0);
        String before = Checks.all(desk);
        Checks.days(desk, 5);
        desk.change(0, 6);
        desk.kiss(1);
        desk.back(0);
        C.due("as it was", Checks.all(desk).equals(before) ? 1 : 0, 1);
    }

    static void promise15AgainAndAgain() {
        QuarrelDesk desk = behind(2, "plain 4 10");
        desk.keep(0);
        for (int i = 0; i < 3; i++) {
            Checks.days(desk, 3);
            C.due("back(0)", desk.back(0), 2);
            C.due("STRAIN", desk.couple(0, STRAIN), 6);
            C.due("TIFFS", desk.couple(0, TIFFS), 2);
            C.due("the last BREAK", desk.couple(0, LAST), Checks.NONE);
        }
    }

    /** "(but THE TEXT, SEEN, what can be undone)" */
    static void promise15LeavesTheTextAndSeen() {
        QuarrelDesk desk = Checks.told("plain 4 10");
        desk.write('x');
        desk.seen(0, 1, 1);
        desk.keep(0);
        desk.write('y');
        desk.seen(0, 1, 2);
        desk.back(0);
        C.due("THE TEXT", desk.count(8), 2);
        C.due("SEEN", desk.count(6), 2);
        desk.erase();
        desk.forget();
        desk.back(0);
        C.due("THE TEXT", desk.count(8), 0);
        C.due("SEEN", desk.count(6), 0);
    }

    /** "All as it is .. is kept", not what was told: a further text begins from what was told. */
    static void promise15FurtherTextsBeginFromWhatWasTold() {
        QuarrelDesk desk = behind(2, "plain 4 10");
        desk.change(0, 9);
        desk.keep(0);
        desk.back(0);
        Checks.further(desk, "tiff 5");
        C.due("EXCESS", desk.term(0), 5);
        C.due("STRAIN", desk.couple(0, STRAIN), 10);
    }
}
