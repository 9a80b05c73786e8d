/** Each sentence of the document that names a boundary, promises 16 to 21: one test, with its promise's number. */
public final class EdgesForetoldTest {
    private static final Checks C = new Checks();
    private static final int MIN = Integer.MIN_VALUE, MAX = Integer.MAX_VALUE;
    private static final int LIFT = 999999;
    private static final String SIX = "plain 1 1;plain 1 1;plain 1 1;plain 1 1;plain 1 1;plain 1 1;tiff 99;break 99";

    public static void main(String[] args) {
        C.runPromises(EdgesForetoldTest.class, 16, 21);
        C.end();
    }

    /** One of each kind behind some days, with something to undo and something seen. */
    private static QuarrelDesk lived() {
        QuarrelDesk desk = Checks.told("plain 9 25;sulky 2 11;proud 9 11;sunday 4 7");
        Checks.days(desk, 2);
        desk.seen(0, 1, 1);
        return desk;
    }

    // ---- 16: balance

    /** "BALANCE behind n DAYS (0 .. 60)" */
    static void promise16NIs0To60() {
        QuarrelDesk desk = Checks.told("plain 6 0;tiff 6;premium 3");
        C.due("balance(0)", desk.balance(0), LIFT);
        C.due("balance(60)", desk.balance(60), LIFT + 10 * 3 + 50);
        int[] outside = {-1, 61, MIN, MAX};
        for (int n : outside) {
            C.refused("balance(" + n + ")", desk, () -> desk.balance(n), Checks.OUTSIDE);
        }
    }

    /** "(nothing changes), DAYS going by from now" */
    static void promise16FromNow() {
        QuarrelDesk desk = Checks.told("plain 9 25");
        C.due("a break on DAY 0", desk.balance(1), LIFT - 29);
        Checks.days(desk, 2);
        C.due("a tiff on DAY 2", desk.balance(1), LIFT - 29 + 2);
    }

    /** "from when all was told": not from now */
    static void promise16FromWhenAllWasTold() {
        QuarrelDesk desk = Checks.told("plain 9 25");
        Checks.days(desk, 3);
        C.due("balance(0)", desk.balance(0), LIFT - 29 + 2);
        Checks.further(desk, "excess 6");
        C.due("told anew", desk.balance(0), LIFT);
    }

    /** "all PREMIUMS less all that was CLAIMED" */
    static void promise16OfAll() {
        QuarrelDesk desk = Checks.told("plain 4 10;plain 9 25;sulky 9 25;premium 3");
        C.due("balance(2)", desk.balance(2), LIFT + 2 * 3 - 29 - 29);
    }

    /** "What may be below 0 is told with 999999 more" */
    static void promise16BelowNothing() {
        QuarrelDesk desk = Checks.told("plain 9 99;plain 9 99;plain 9 99;plain 9 99;plain 9 99;plain 9 99;excess 0;cover 99;break 9");
        C.due("balance(1)", desk.balance(1), LIFT - 6 * 99);
        C.due("balance(60)", desk.balance(60), LIFT - 6 * 99 - 59 * 6 * 9);
    }

    static void promise16OfNoCouples() {
        C.due("balance(60)", new QuarrelDesk().balance(60), LIFT);
    }

    static void promise16HalvesAreForetold() {
        QuarrelDesk desk = Checks.told("plain 6 0;tiff 6;premium 3");
        C.due("ten days", desk.balance(10), LIFT + 30);
        C.due("eleven days", desk.balance(11), LIFT + 31);
    }

    static void promise16ChangesNothing() {
        QuarrelDesk desk = lived();
        C.asked("balance(0)", desk, () -> desk.balance(0), desk.count(2));
        int due = desk.balance(60);
        C.asked("balance(60)", desk, () -> desk.balance(60), due);
    }

    // ---- 17: strain

    static void promise17NIs0To60() {
        QuarrelDesk desk = Checks.told("plain 1 30;tiff 99;break 99");
        C.due("strain(0, 0)", desk.strain(0, 0), 30);
        C.due("strain(0, 1)", desk.strain(0, 1), 31);
        C.due("strain(0, 60)", desk.strain(0, 60), 90);
        int[] outside = {-1, 61, MIN, MAX};
        for (int n : outside) {
            C.refused("strain(0, " + n + ")", desk, () -> desk.strain(0, n), Checks.OUTSIDE);
        }
    }

    static void promise17Unknown() {
        QuarrelDesk desk = Checks.told("plain 4 10;plain 5 1");
        C.due("strain(1, 1)", desk.strain(1, 1), 6);
        int[] none = {-1, 2, 6, MIN, MAX};
        for (int couple : none) {
            C.refused("strain(" + couple + ", 1)", desk, () -> desk.strain(couple, 1), Checks.UNKNOWN);
        }
    }

    static void promise17UnknownIsAheadOfOutside() {
        QuarrelDesk desk = Checks.told("plain 4 10");
        C.due("strain(1, 61)", desk.strain(1, 61), Checks.UNKNOWN);
        C.due("strain(-1, -1)", desk.strain(-1, -1), Checks.UNKNOWN);
    }

    static void promise17FromNow() {
        QuarrelDesk desk = Checks.told("sunday 4 0;tiff 99;break 99");
        C.due("behind six days", desk.strain(0, 6), 24);
        C.due("behind the sunday", desk.strain(0, 7), 32);
        Checks.days(desk, 3);
        C.due("behind the sunday", desk.strain(0, 4), 32);
        C.due("behind the next", desk.strain(0, 11), 64);
        Checks.days(desk, 3);
        C.due("behind the sunday", desk.strain(0, 1), 32);
    }

    static void promise17TiffOfTheDayBefore() {
        QuarrelDesk desk = Checks.told("proud 1 11;relief 20");
        C.due("strain(0, 2)", desk.strain(0, 2), 3);
        desk.day();
        C.due("strain(0, 1)", desk.strain(0, 1), 3);
        desk.day();
        C.due("strain(0, 1)", desk.strain(0, 1), 4);
    }

    static void promise17ChangesNothing() {
        QuarrelDesk desk = lived();
        int due = desk.strain(1, 60);
        C.asked("strain(1, 60)", desk, () -> desk.strain(1, 60), due);
    }

    // ---- 18: first

    /** "(1: this one)" */
    static void promise18ThisDayIs1() {
        C.due("first(0)", Checks.told("plain 9 21").first(0), 1);
        C.due("first(0)", Checks.told("plain 9 20;tiff 99").first(0), 2);
    }

    /** "of 60; none" */
    static void promise18SixtiethIsTheLast() {
        C.due("on the 59th", Checks.told("plain 1 40;tiff 99;break 99").first(0), 59);
        C.due("on the 60th", Checks.told("plain 1 39;tiff 99;break 99").first(0), 60);
        C.due("on the 61st", Checks.told("plain 1 38;tiff 99;break 99").first(0), Checks.NONE);
        C.due("never", Checks.told("plain 4 10").first(0), Checks.NONE);
    }

    static void promise18FromNow() {
        QuarrelDesk desk = Checks.told("plain 1 38;tiff 99;break 99");
        desk.day();
        C.due("first(0)", desk.first(0), 60);
        // it is 28 behind six days, and 36 on the sunday
        QuarrelDesk sunday = Checks.told("sunday 4 4;tiff 99;break 36");
        Checks.days(sunday, 3);
        C.due("first(0) over a sunday", sunday.first(0), 4);
    }

    /** "its next BREAK": not one that was */
    static void promise18TheNext() {
        QuarrelDesk desk = Checks.told("plain 9 21;tiff 99");
        desk.day();
        C.due("first(0)", desk.first(0), 4);
    }

    static void promise18OfEachCouple() {
        QuarrelDesk desk = Checks.told("plain 9 21;plain 4 10;plain 9 12;tiff 99");
        C.due("first(0)", desk.first(0), 1);
        C.due("first(1)", desk.first(1), 5);
        C.due("first(2)", desk.first(2), 2);
    }

    /** A BREAK for which nothing is claimed is a BREAK. */
    static void promise18BreaksWithoutAClaim() {
        C.due("a sunday one on DAY 0", Checks.told("sunday 9 21").first(0), 1);
        C.due("one that is void then", Checks.told("sulky 2 11").first(0), 5);
    }

    static void promise18Unknown() {
        QuarrelDesk desk = Checks.told("plain 4 10");
        int[] none = {-1, 1, 6, MIN, MAX};
        for (int couple : none) {
            C.refused("first(" + couple + ")", desk, () -> desk.first(couple), Checks.UNKNOWN);
        }
    }

    static void promise18ChangesNothing() {
        QuarrelDesk desk = lived();
        int due = desk.first(0);
        C.asked("first(0)", desk, () -> desk.first(0), due);
    }

    // ---- 19: level

    /** "LEVEL for n DAYS (1 .. 60)" */
    static void promise19NIs1To60() {
        QuarrelDesk desk = Checks.told("plain 9 25");
        C.due("level(1)", desk.level(1), Checks.NONE);
        C.due("level(60)", Checks.told("plain 4 10").level(60), 0);
        int[] outside = {-1, 0, 61, MIN, MAX};
        for (int n : outside) {
            C.refused("level(" + n + ")", desk, () -> desk.level(n), Checks.OUTSIDE);
        }
    }

    static void promise19SixtiethDayCounts() {
        QuarrelDesk desk = Checks.told("plain 1 39;tiff 99;break 99");
        C.due("level(59)", desk.level(59), 0);
        C.due("level(60)", desk.level(60), Checks.NONE);
    }

    /** "the least PREMIUM (0 .. 50)" */
    static void promise19LeastIs0() {
        C.due("nothing is claimed", Checks.told("plain 4 10").level(60), 0);
        C.due("nobody", new QuarrelDesk().level(60), 0);
        C.due("nothing beyond excess", Checks.told("plain 9 25;excess 50").level(1), 0);
    }

    /** "(.. 50)", "none" */
    static void promise19MostIs50() {
        // 51 broke, then 9, then 18 with the one tiff
        C.due("50 for one tiff", Checks.told("plain 9 42;cover 99;excess 1").level(3), 50);
        C.due("51 for one tiff", Checks.told("plain 9 42;cover 99;excess 0").level(3), Checks.NONE);
        C.due("without a tiff", Checks.told("plain 9 42").level(1), Checks.NONE);
    }

    /** "no less than it pays" */
    static void promise19JustEnough() {
        C.due("28 for four tiffs", Checks.told("plain 9 25;excess 6").level(6), 7);
        C.due("29 for four tiffs", Checks.told("plain 9 25;excess 5").level(6), 8);
        C.due("32 for four tiffs", Checks.told("plain 9 25;excess 2").level(6), 8);
        C.due("33 for four tiffs", Checks.told("plain 9 25;excess 1").level(6), 9);
    }

    /** "in these DAYS": not what was PAID, CLAIMED before */
    static void promise19InTheseDaysAlone() {
        QuarrelDesk desk = Checks.told("plain 9 25;plain 1 11;relief 0");
        desk.day();
        C.due("29 was claimed before", desk.level(1), 0);
        // the first pays each day, the second at 13 and 22, and breaks at 31
        desk = Checks.told("plain 1 11;plain 9 4;relief 0;excess 0");
        desk.day();
        C.due("4 was paid before", desk.count(2), LIFT + 4);
        C.due("31 for three tiffs", desk.level(2), 11);
    }

    /** "half of it (cut)": of each PREMIUM by itself */
    static void promise19HalvesAreCut() {
        QuarrelDesk desk = Checks.told("plain 6 0;plain 6 0;plain 9 0;tiff 6;relief 9");
        Checks.days(desk, 10);
        desk.change(0, 50);
        C.due("nothing is claimed", desk.level(1), 0);
        desk.change(0, 0);
        desk.change(1, 3);
        for (int i = 0; i < 3; i++) {
            desk.mother(2);
        }
        // two halves: 3 of them cut are 2, so 4 it is, for 3
        C.due("3 for two halves", desk.level(1), 4);
        desk.change(1, 2);
        C.due("2 for two halves", desk.level(1), 2);
    }

    /** The halves PAID before these DAYS are not of these DAYS either. */
    static void promise19HalvesOfBeforeDoNotCount() {
        QuarrelDesk desk = Checks.told("plain 6 0;tiff 6");
        Checks.days(desk, 13);
        for (int i = 0; i < 3; i++) {
            desk.mother(0);
        }
        // 36 broke, for 31, then one tiff
        C.due("31 for one tiff", desk.level(2), 31);
    }

    /** The PREMIUM that is, is no matter. */
    static void promise19WhateverThePremiumIs() {
        C.due("premium 0", Checks.told("plain 9 25;premium 0").level(6), 8);
        C.due("premium 50", Checks.told("plain 9 25;premium 50").level(6), 8);
    }

    static void promise19ChangesNothing() {
        QuarrelDesk desk = lived();
        int due = desk.level(60);
        C.asked("level(60)", desk, () -> desk.level(60), due);
    }

    // ---- 20: kissOn

    /** "KISS for one in n DAYS (1 .. 30)" */
    static void promise20NIs1To30() {
        QuarrelDesk desk = Checks.told("plain 9 25");
        C.due("kissOn(0, 1)", desk.kissOn(0, 1), 0);
        C.due("kissOn(0, 30)", Checks.told("plain 1 0").kissOn(0, 30), Checks.NONE);
        int[] outside = {-1, 0, 31, MIN, MAX};
        for (int n : outside) {
            C.refused("kissOn(0, " + n + ")", desk, () -> desk.kissOn(0, n), Checks.OUTSIDE);
        }
    }

    static void promise20ThirtiethDayCounts() {
        QuarrelDesk desk = Checks.told("plain 1 69;tiff 99;break 99");
        C.due("kissOn(0, 29)", desk.kissOn(0, 29), Checks.NONE);
        C.due("kissOn(0, 30)", desk.kissOn(0, 30), 0);
    }

    /** "on which of them (0: now, ahead of that DAY)": the last of 30 is 29 */
    static void promise20LastOfThemMayBeBest() {
        // it breaks at 18 on each second day; 9 kissed is 4, so a break is a day later, at 22, but for the last
        QuarrelDesk desk = Checks.told("plain 9 0;tiff 99;break 18");
        C.due("kissOn(0, 30)", desk.kissOn(0, 30), 29);
        C.due("kissOn(0, 2)", desk.kissOn(0, 2), 1);
    }

    /** "0: now" */
    static void promise20DaysFromNow() {
        QuarrelDesk desk = Checks.told("plain 9 0;tiff 99;break 18");
        desk.day();
        C.due("now", desk.kissOn(0, 1), 0);
        C.due("of three", desk.kissOn(0, 3), 2);
        // 28 behind six days, and 36 on the sunday
        QuarrelDesk sunday = Checks.told("sunday 4 4;tiff 99;break 36");
        Checks.days(sunday, 3);
        C.due("ahead of the sunday", sunday.kissOn(0, 3), Checks.NONE);
        C.due("with the sunday", sunday.kissOn(0, 4), 0);
    }

    /** "of several the first" */
    static void promise20FirstOfSeveral() {
        // all that it claims is 13 each time, so each kiss ahead of a break saves one
        QuarrelDesk desk = Checks.told("plain 9 0;tiff 99;break 18;cover 18");
        C.due("kissOn(0, 30)", desk.kissOn(0, 30), 1);
        C.due("both days", Checks.told("plain 9 20;tiff 99").kissOn(0, 2), 0);
    }

    /** "least, and less than without" */
    static void promise20NoneWhenItSavesNothing() {
        C.due("nothing is claimed", Checks.told("plain 4 10").kissOn(0, 30), Checks.NONE);
        C.due("as much is claimed", Checks.told("plain 9 99;break 10").kissOn(0, 1), Checks.NONE);
        C.due("less by one", Checks.told("plain 9 99;break 10;cover 59").kissOn(0, 1), 0);
        C.due("58 either way", Checks.told("plain 9 99;break 10;cover 58").kissOn(0, 1), Checks.NONE);
    }

    /** A KISS ends what makes one VOID, so that it would claim. */
    static void promise20NoneWhenItMakesClaims() {
        QuarrelDesk desk = Checks.told("sulky 2 11");
        Checks.days(desk, 3);
        C.due("kissOn(0, 30)", desk.kissOn(0, 30), Checks.NONE);
    }

    /** "KISS for one": of another's claims it saves nothing */
    static void promise20OfThatCoupleAlone() {
        QuarrelDesk desk = Checks.told("plain 4 10;plain 9 25");
        C.due("kissOn(0, 1)", desk.kissOn(0, 1), Checks.NONE);
        C.due("kissOn(1, 1)", desk.kissOn(1, 1), 0);
    }

    /** "ahead of that DAY": not behind it */
    static void promise20AheadOfTheDay() {
        C.due("it breaks today", Checks.told("plain 9 21").kissOn(0, 1), 0);
        C.due("half of 98 is over the limit", Checks.told("plain 9 98;break 50;cover 40").kissOn(0, 1), Checks.NONE);
    }

    static void promise20Unknown() {
        QuarrelDesk desk = Checks.told("plain 9 25");
        int[] none = {-1, 1, 6, MIN, MAX};
        for (int couple : none) {
            C.refused("kissOn(" + couple + ", 1)", desk, () -> desk.kissOn(couple, 1), Checks.UNKNOWN);
        }
    }

    static void promise20UnknownIsAheadOfOutside() {
        QuarrelDesk desk = Checks.told("plain 9 25");
        C.due("kissOn(1, 31)", desk.kissOn(1, 31), Checks.UNKNOWN);
        C.due("kissOn(-1, 0)", desk.kissOn(-1, 0), Checks.UNKNOWN);
    }

    static void promise20ChangesNothing() {
        QuarrelDesk desk = lived();
        int due = desk.kissOn(0, 30);
        C.asked("kissOn(0, 30)", desk, () -> desk.kissOn(0, 30), due);
    }

    // ---- 21: take

    /** "TAKE of k (0 .. 6)" */
    static void promise21KIs0To6() {
        QuarrelDesk desk = Checks.told(SIX);
        C.due("take(0, 1, 0)", desk.take(0, 1, 0), 0);
        C.due("take(6, 1, 0)", desk.take(6, 1, 0), 63);
        int[] outside = {-1, 7, MIN, MAX};
        for (int k : outside) {
            C.due("take(" + k + ", 1, 0)", desk.take(k, 1, 0), Checks.OUTSIDE);
        }
        C.refused("take(7, 1, 0)", desk, () -> desk.take(7, 1, 0), Checks.OUTSIDE);
    }

    /** "for n DAYS (1 .. 60)" */
    static void promise21NIs1To60() {
        QuarrelDesk desk = Checks.told("plain 9 25");
        C.due("take(1, 1, 1)", desk.take(1, 1, 1), 1);
        C.due("take(1, 60, 1)", desk.take(1, 60, 1), 1);
        int[] outside = {-1, 0, 61, MIN, MAX};
        for (int n : outside) {
            C.refused("take(1, " + n + ", 1)", desk, () -> desk.take(1, n, 1), Checks.OUTSIDE);
        }
    }

    static void promise21SixtiethDayCounts() {
        QuarrelDesk desk = Checks.told("plain 1 39;plain 1 38;tiff 99;break 99");
        C.due("take(1, 59, 0)", desk.take(1, 59, 0), 1);
        C.due("take(1, 60, 0)", desk.take(1, 60, 0), 2);
        C.due("take(1, 60, 1)", desk.take(1, 60, 1), 0);
        C.due("take(2, 60, 1)", desk.take(2, 60, 1), 1);
    }

    /** "which (what 0), how many (1)" */
    static void promise21WhatIs0Or1() {
        QuarrelDesk desk = Checks.told("plain 4 10;plain 9 25");
        C.due("take(2, 1, 0)", desk.take(2, 1, 0), 3);
        C.due("take(2, 1, 1)", desk.take(2, 1, 1), 1);
        int[] outside = {-1, 2, MIN, MAX};
        for (int what : outside) {
            C.refused("take(2, 1, " + what + ")", desk, () -> desk.take(2, 1, what), Checks.OUTSIDE);
        }
    }

    /** "none: there are not so many" */
    static void promise21NoneWhenThereAreNotSoMany() {
        QuarrelDesk desk = Checks.told("plain 4 10;plain 9 25");
        C.due("take(2, 1, 0)", desk.take(2, 1, 0), 3);
        C.due("take(3, 1, 0)", desk.take(3, 1, 0), Checks.NONE);
        C.due("take(3, 1, 1)", desk.take(3, 1, 1), Checks.NONE);
        C.due("take(6, 60, 1)", desk.take(6, 60, 1), Checks.NONE);
        C.due("of no couples", new QuarrelDesk().take(1, 1, 0), Checks.NONE);
    }

    static void promise21OutsideIsAheadOfNone() {
        QuarrelDesk desk = new QuarrelDesk();
        C.due("take(6, 0, 0)", desk.take(6, 0, 0), Checks.OUTSIDE);
        C.due("take(6, 61, 0)", desk.take(6, 61, 0), Checks.OUTSIDE);
        C.due("take(6, 1, 2)", desk.take(6, 1, 2), Checks.OUTSIDE);
        C.due("take(6, 1, -1)", desk.take(6, 1, -1), Checks.OUTSIDE);
    }

    /** "sets of k COUPLES": of none */
    static void promise21OfNone() {
        QuarrelDesk desk = Checks.told("plain 9 25;plain 9 25");
        C.due("take(0, 60, 0)", desk.take(0, 60, 0), 0);
        C.due("take(0, 60, 1)", desk.take(0, 60, 1), 0);
        C.due("of no couples", new QuarrelDesk().take(0, 60, 0), 0);
        C.due("of no couples", new QuarrelDesk().take(0, 60, 1), 0);
    }

    /** "of several the least (bits)" */
    static void promise21OfSeveralTheLeast() {
        QuarrelDesk desk = Checks.told(SIX);
        int[] least = {0, 1, 3, 7, 15, 31, 63};
        for (int k = 0; k <= 6; k++) {
            C.due("take(" + k + ", 60, 0)", desk.take(k, 60, 0), least[k]);
        }
        C.due("the last is best", Checks.told("plain 9 25;plain 9 25;plain 4 10").take(1, 1, 0), 4);
        C.due("with the last", Checks.told("plain 9 25;plain 9 25;plain 4 10").take(2, 1, 0), 5);
    }

    /** "(the most on one DAY is least)": not the sum of them */
    static void promise21TheMostOnOneDay() {
        // the first two break on days 7, 15, the third on each third day
        QuarrelDesk desk = Checks.told("plain 4 0;plain 4 0;plain 9 3;tiff 99");
        C.due("take(2, 8, 0)", desk.take(2, 8, 0), 5);
        C.due("take(2, 8, 1)", desk.take(2, 8, 1), 1);
        C.due("take(3, 8, 1)", desk.take(3, 8, 1), 2);
    }

    /** All six on one day: 6 is how many. */
    static void promise21AllAtOnce() {
        QuarrelDesk desk = Checks.told("plain 1 1;proud 1 1;sunday 1 1;sulky 1 1;plain 1 1;plain 1 1;break 1");
        C.due("take(6, 60, 0)", desk.take(6, 60, 0), 63);
        C.due("take(6, 60, 1)", desk.take(6, 60, 1), 6);
        C.due("take(5, 60, 0)", desk.take(5, 60, 0), 31);
        C.due("take(5, 60, 1)", desk.take(5, 60, 1), 5);
    }

    static void promise21FromNow() {
        // both are at 28 behind six days; on the sunday the first breaks at 36, a day later the second
        QuarrelDesk desk = Checks.told("sunday 4 4;plain 4 4;tiff 99;break 36");
        Checks.days(desk, 3);
        C.due("ahead of the sunday", desk.take(1, 3, 0), 1);
        C.due("with the sunday", desk.take(1, 4, 0), 2);
        C.due("with the day behind it", desk.take(1, 5, 1), 1);
    }

    static void promise21ForetoldAnew() {
        QuarrelDesk desk = Checks.told("plain 9 25;plain 4 10");
        C.due("it breaks", desk.take(2, 1, 1), 1);
        desk.kiss(0);
        C.due("kissed it does not", desk.take(2, 1, 1), 0);
        C.due("the first of both", desk.take(1, 1, 0), 1);
    }

    static void promise21ChangesNothing() {
        QuarrelDesk desk = lived();
        int due = desk.take(2, 60, 0);
        C.asked("take(2, 60, 0)", desk, () -> desk.take(2, 60, 0), due);
    }
}
