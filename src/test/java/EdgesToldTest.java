/** Each sentence of the document that names a boundary, promises 1 to 8: one test, with its promise's number. */
public final class EdgesToldTest {
    private static final Checks C = new Checks();
    private static final String ALL_NEW = Checks.all(new QuarrelDesk());
    private static final int MIN = Integer.MIN_VALUE, MAX = Integer.MAX_VALUE;
    private static final String SIX = "plain1 1;plain1 1;proud1 1;sunday1 1;sulky1 1;plain1 1";
    private static final String FOURTEEN = "desk;desk;desk;desk;desk;desk;desk;desk;desk;desk;desk;desk;desk;desk";
    private static final String[] KINDS = {"plain", "proud", "sunday", "sulky"};
    private static final String[] TERMS = {"excess", "cover", "premium", "tiff", "break", "relief"};
    private static final int[] FIRST = {5, 40, 2, 12, 30, 6};
    private static final int[] LEAST = {0, 0, 0, 1, 1, 0};
    private static final int[] MOST = {50, 99, 50, 99, 99, 20};

    public static void main(String[] args) {
        C.runPromises(EdgesToldTest.class, 1, 8);
        C.end();
    }

    private static QuarrelDesk written(String text) {
        return Checks.written(new QuarrelDesk(), text);
    }

    private static void fault(String text, int place) {
        C.due("fault() of '" + text + "'", written(text).fault(), place);
    }

    private static void terms(QuarrelDesk desk, int... terms) {
        for (int i = 0; i < 6; i++) {
            C.due("term(" + i + ")", desk.term(i), terms[i]);
        }
    }

    /** One on which all has happened that a further text sets back, but what is kept. */
    private static QuarrelDesk lived() {
        QuarrelDesk desk = Checks.told("plain 9 25;sulky 2 11;proud 9 11;cover 30");
        Checks.days(desk, 4);
        desk.mother(2);
        desk.change(1, 99);
        desk.seen(0, 1, 1);
        return desk;
    }

    // ---- 1: a new object

    /** "0, 1 .. as they come, 6 at most (none at first)" */
    static void promise1NoCouplesAtFirst() {
        QuarrelDesk desk = new QuarrelDesk();
        C.due("count(0)", desk.count(0), 0);
        C.due("couple(0, 0)", desk.couple(0, 0), Checks.UNKNOWN);
    }

    /** "EXCESS (.. 5 at first), COVER (.. 40), PREMIUM (.. 2), TIFF (.. 12), BREAK (.. 30), RELIEF (.. 6)" */
    static void promise1TermsAtFirst() {
        terms(new QuarrelDesk(), FIRST);
    }

    static void promise1NothingHasHappenedAtFirst() {
        QuarrelDesk desk = new QuarrelDesk();
        int[] counts = {0, 0, 999999, 0, 0, 0, 0, 0, 0};
        for (int i = 0; i < counts.length; i++) {
            C.due("count(" + i + ")", desk.count(i), counts[i]);
        }
    }

    static void promise1NothingIsKeptOrUndoneAtFirst() {
        QuarrelDesk desk = new QuarrelDesk();
        C.due("undo()", desk.undo(), Checks.NOT);
        C.due("back(0)", desk.back(0), Checks.NOT);
        C.due("back(1)", desk.back(1), Checks.NOT);
    }

    static void promise1IsApartFromOtherObjects() {
        QuarrelDesk one = Checks.told("plain 4 10;tiff 50");
        one.day();
        one.keep(0);
        one.seen(0, 1, 1);
        one.write('x');
        QuarrelDesk other = new QuarrelDesk();
        C.due("as a new one", Checks.all(other).equals(ALL_NEW) ? 1 : 0, 1);
        C.due("back(0)", other.back(0), Checks.NOT);
        other.day();
        C.due("DAY of the one", one.count(1), 1);
    }

    static void promise1Constants() {
        C.due("NONE", QuarrelDesk.NONE, -1);
        C.due("UNKNOWN", QuarrelDesk.UNKNOWN, -2);
        C.due("OUTSIDE", QuarrelDesk.OUTSIDE, -3);
        C.due("NOT", QuarrelDesk.NOT, -4);
        C.due("FULL", QuarrelDesk.FULL, -5);
    }

    // ---- 2: write

    /** "A letter (its number, 0 .. 255)" */
    static void promise2LettersAreFrom0() {
        QuarrelDesk desk = new QuarrelDesk();
        C.due("write(0)", desk.write(0), 1);
        C.refused("write(-1)", desk, () -> desk.write(-1), Checks.OUTSIDE);
        C.refused("write(MIN)", desk, () -> desk.write(MIN), Checks.OUTSIDE);
    }

    static void promise2LettersAreTo255() {
        QuarrelDesk desk = new QuarrelDesk();
        C.due("write(255)", desk.write(255), 1);
        C.refused("write(256)", desk, () -> desk.write(256), Checks.OUTSIDE);
        C.refused("write(MAX)", desk, () -> desk.write(MAX), Checks.OUTSIDE);
    }

    /** "a row of letters, 160 at most" */
    static void promise2AreAtMost160() {
        QuarrelDesk desk = new QuarrelDesk();
        for (int i = 1; i <= 160; i++) {
            C.due("letter " + i, desk.write('a'), i);
        }
        C.refused("letter 161", desk, () -> desk.write('a'), Checks.FULL);
        C.due("letters", desk.count(8), 160);
    }

    static void promise2OutsideIsAheadOfFull() {
        QuarrelDesk desk = written(" ".repeat(160));
        C.refused("write(256) as 161st", desk, () -> desk.write(256), Checks.OUTSIDE);
        C.refused("write(-1) as 161st", desk, () -> desk.write(-1), Checks.OUTSIDE);
    }

    static void promise2FullLeavesTheText() {
        QuarrelDesk desk = written(" ".repeat(154) + "tiff 5");
        C.due("write('5')", desk.write('5'), Checks.FULL);
        C.due("fault()", desk.fault(), Checks.NONE);
        C.due("desk()", desk.desk(), 1);
        C.due("term(3)", desk.term(3), 5);
    }

    static void promise2FullIsOverBehindErase() {
        QuarrelDesk desk = written(" ".repeat(160));
        desk.erase();
        C.due("write('a')", desk.write('a'), 1);
    }

    static void promise2FullIsOverBehindDesk() {
        QuarrelDesk desk = written("desk" + " ".repeat(156));
        desk.desk();
        C.due("write('a')", desk.write('a'), 1);
        C.due("fault()", desk.fault(), 0);
    }

    /** "A letter more of THE TEXT": of whatever sort, wherever it stands */
    static void promise2TakesLettersThatCannotStand() {
        QuarrelDesk desk = written("tiff 0");
        C.due("write(7)", desk.write(7), 7);
        C.due("write(200)", desk.write(200), 8);
        C.due("fault()", desk.fault(), 5);
    }

    // ---- 3: erase

    /** "how many letters it had": none */
    static void promise3OfNone() {
        QuarrelDesk desk = new QuarrelDesk();
        C.due("erase()", desk.erase(), 0);
        C.due("erase() again", desk.erase(), 0);
        C.due("behind desk()", Checks.told("desk").erase(), 0);
    }

    static void promise3OfOneAndOf160() {
        C.due("erase() of 1", written(" ").erase(), 1);
        C.due("erase() of 160", written(" ".repeat(160)).erase(), 160);
    }

    /** "THE TEXT is empty" */
    static void promise3LeavesAnEmptyText() {
        QuarrelDesk desk = written("desk");
        desk.erase();
        C.due("letters", desk.count(8), 0);
        C.due("fault()", desk.fault(), 0);
        C.due("desk()", desk.desk(), Checks.NOT);
    }

    static void promise3LeavesAllElse() {
        QuarrelDesk desk = lived();
        String before = Checks.all(desk);
        Checks.written(desk, "desk").erase();
        C.due("all as before", Checks.all(desk).equals(before) ? 1 : 0, 1);
    }

    // ---- 4: fault

    /** "an empty TEXT ends too soon" */
    static void promise4EmptyText() {
        fault("", 0);
    }

    static void promise4BlanksAlone() {
        fault(" ", 1);
        fault(" ".repeat(160), 160);
    }

    /** "CLAUSES with ; between, 1 to 14" */
    static void promise4OneAndFourteenClauses() {
        fault("desk", Checks.NONE);
        fault(FOURTEEN, Checks.NONE);
        fault(" " + FOURTEEN + " ", Checks.NONE);
    }

    /** "behind the 14th no ; can stand" */
    static void promise4NoMoreBehindTheFourteenth() {
        fault(FOURTEEN + ";", 69);
        fault(FOURTEEN + ";desk", 69);
        fault(FOURTEEN + " ;desk", 70);
        fault(FOURTEEN.substring(5) + ";", 65);
    }

    static void promise4NoClauseBetweenTwoSigns() {
        fault(";", 0);
        fault(";desk", 0);
        fault("desk;;desk", 5);
        fault("desk; ;desk", 6);
    }

    /** "plain T S. proud T S. sunday T S. sulky T S.", "of TEMPER (1 .. 9)" */
    static void promise4TemperIs1To9() {
        for (String kind : KINDS) {
            int place = kind.length() + 1;
            fault(kind + " 1 5", Checks.NONE);
            fault(kind + " 9 5", Checks.NONE);
            fault(kind + " 0 5", place);
            fault(kind + " 10 5", place);
            fault(kind + " 99 5", place);
        }
    }

    /** "with a STRAIN (0 .. 99)" */
    static void promise4StrainIs0To99() {
        for (String kind : KINDS) {
            fault(kind + " 5 0", Checks.NONE);
            fault(kind + " 5 99", Checks.NONE);
            fault(kind + " 5 100", kind.length() + 3);
        }
    }

    /** "EXCESS (0 .. 50), COVER (0 .. 99), PREMIUM (0 .. 50), TIFF (1 .. 99), BREAK (1 .. 99), RELIEF (0 .. 20)" */
    static void promise4TermsWithinTheirBounds() {
        for (int i = 0; i < 6; i++) {
            int place = TERMS[i].length() + 1;
            fault(TERMS[i] + " " + LEAST[i], Checks.NONE);
            fault(TERMS[i] + " " + MOST[i], Checks.NONE);
            fault(TERMS[i] + " " + (MOST[i] + 1), place);
            fault(TERMS[i] + " 0", LEAST[i] == 0 ? Checks.NONE : place);
            fault(TERMS[i] + " 99", MOST[i] == 99 ? Checks.NONE : place);
        }
    }

    /** "numbers of 1 or 2 digits", "a number .. of more digits, also" */
    static void promise4NumbersAreOfOneOrTwoDigits() {
        fault("plain 01 00", Checks.NONE);
        fault("plain 001 0", 6);
        fault("plain 1 000", 8);
        for (int i = 0; i < 6; i++) {
            fault(TERMS[i] + " 0" + LEAST[i], Checks.NONE);
            fault(TERMS[i] + " 00" + LEAST[i], TERMS[i].length() + 1);
        }
        fault("excess 4294967296", 7);
        fault("excess " + "9".repeat(153), 7);
        fault("excess " + "0".repeat(153), 7);
    }

    /** "a seventh cannot stand there (at its word)" */
    static void promise4SeventhInOneText() {
        fault(SIX, Checks.NONE);
        for (String kind : KINDS) {
            fault(SIX + ";" + kind + "1 1", SIX.length() + 1);
        }
    }

    static void promise4SeventhIsFaultAtItsWordWhateverIsBehind() {
        fault(SIX + "; plain", SIX.length() + 2);
        fault(SIX + ";plain 0 0", SIX.length() + 1);
        fault(SIX + ";plain;", SIX.length() + 1);
    }

    static void promise4SeventhByEarlierTexts() {
        QuarrelDesk desk = Checks.told(SIX);
        C.due("fault()", Checks.written(desk, "tiff 5; proud 1 1").fault(), 8);
        desk = Checks.told("plain1 1;plain1 1;proud1 1;sunday1 1;sulky1 1");
        C.due("fault()", Checks.written(desk, "proud 1 1;proud 1 1").fault(), 10);
    }

    static void promise4SeventhWhenNoneHasCome() {
        fault(SIX + ";tiff 5", Checks.NONE);
        fault(SIX + ";desk;plain1 1", Checks.NONE);
        fault("desk;" + SIX + ";plain1 1", SIX.length() + 6);
    }

    static void promise4SeventhAheadOfADeskInTheSameText() {
        QuarrelDesk desk = Checks.told(SIX);
        C.due("fault()", Checks.written(desk, "plain 1 1;desk").fault(), 0);
        desk.erase();
        C.due("fault()", Checks.written(desk, "desk;plain 1 1").fault(), Checks.NONE);
    }

    /** What a text with a fault would have told is not told, so it does not count. */
    static void promise4CouplesOfAFaultyTextDoNotCount() {
        QuarrelDesk desk = Checks.told("plain 1 1;plain 1 1;plain 1 1");
        Checks.written(desk, "plain 1 1;plain 1 1;plain 1 1;tiff 0").desk();
        desk.erase();
        C.due("fault()", Checks.written(desk, "plain 1 1;plain 1 1;plain 1 1").fault(), Checks.NONE);
        desk.fault();
        C.due("fault() again", desk.fault(), Checks.NONE);
    }

    /** "each is one of": whole words, each letter as written */
    static void promise4WordsAreAsWritten() {
        String[] words = {"desk", "plain 5 5", "proud 5 5", "sunday 5 5", "sulky 5 5",
            "excess 5", "cover 5", "premium 5", "tiff 5", "break 5", "relief 5"};
        for (String word : words) {
            fault(word, Checks.NONE);
            fault(" x" + word, 1);
            for (int i = 0; i < word.length() && word.charAt(i) != ' '; i++) {
                fault(" " + word.substring(0, i) + "q" + word.substring(i + 1), 1);
                fault(" " + word.substring(0, i) + word.substring(i + 1), 1);
            }
        }
    }

    /** Letters that were erased, or done, are of THE TEXT no more. */
    static void promise4ErasedLettersAreGone() {
        QuarrelDesk desk = written("excess5;desk");
        desk.erase();
        C.due("fault() of 'excess'", Checks.written(desk, "excess").fault(), 6);
        desk.erase();
        C.due("fault() of ''", desk.fault(), 0);
        QuarrelDesk done = Checks.told("excess5;desk");
        C.due("fault() of 'excess'", Checks.written(done, "excess").fault(), 6);
        C.due("desk()", done.desk(), Checks.NOT);
    }

    /** "small letters a .. z" */
    static void promise4SmallLettersAlone() {
        fault("desk`", 4);
        fault("desk{", 4);
        fault("deska", 0);
        fault("deskz", 0);
        fault("Desk", 0);
        fault("desK", 0);
        fault("DESK", 0);
    }

    static void promise4DigitsAre0To9() {
        fault("tiff 9/", 6);
        fault("tiff 9:", 6);
        fault("tiff /9", 5);
        fault("tiff :9", 5);
        fault("tiff " + (char) 0xb2, 5);
    }

    /** "blanks (32) may stand ahead of, between and behind TOKENS" */
    static void promise4BlanksStandAnywhereBetween() {
        fault(" desk", Checks.NONE);
        fault("desk ", Checks.NONE);
        fault(" ".repeat(156) + "desk", Checks.NONE);
        fault("desk" + " ".repeat(156), Checks.NONE);
        fault("   plain   3   5   ;   tiff   5   ", Checks.NONE);
        fault("de sk", 0);
        fault("tiff 1 2", 7);
    }

    static void promise4OtherSignsAreNoBlanks() {
        int[] signs = {0, 9, 10, 13, 31, 33, 127, 160, 255};
        for (int sign : signs) {
            fault((char) sign + "desk", 0);
            fault("desk" + (char) sign, 4);
            fault("tiff" + (char) sign + "5", 4);
        }
    }

    /** "none is needed but between two words, two numbers" */
    static void promise4NoBlankIsNeeded() {
        fault("plain3 5;tiff9;desk;break9", Checks.NONE);
        fault("plain 35", 6);
        fault("deskdesk", 0);
        fault("tiff5tiff", 5);
    }

    /** "A FAULT is at the first TOKEN" */
    static void promise4IsTheFirstOfSeveral() {
        fault("tiff 0;break 0", 5);
        fault("tiff 5;break 0;x", 13);
        fault("desk x y", 5);
    }

    /** "the letter with which the TOKEN begins" */
    static void promise4IsWhereTheTokenBegins() {
        fault("  desks", 2);
        fault("tiff  123", 6);
        fault("desk  --", 6);
        fault("abcdefghijklmnopqrstuvwxyz", 0);
        fault("premiumx 5", 0);
        fault("premiu 5", 0);
    }

    /** "or at the end, if it comes too soon", "or the length" */
    static void promise4EndsTooSoon() {
        fault("desk;", 5);
        fault("desk; ", 6);
        fault("plain", 5);
        fault("plain ", 6);
        fault("plain 3", 7);
        fault("plain 3  ", 9);
        for (String term : TERMS) {
            fault(term, term.length());
            fault(term + " ", term.length() + 1);
        }
    }

    static void promise4AtTheLastLetterAndAtTheLength() {
        fault("desk" + " ".repeat(155) + "x", 159);
        fault("desk" + " ".repeat(155) + ";", 160);
        fault(" ".repeat(156) + "tiff", 160);
        fault(" ".repeat(155) + "tiff5", Checks.NONE);
        fault(" ".repeat(154) + "tiff 0", 159);
    }

    static void promise4TokensThatStandElsewhereAlone() {
        fault("5", 0);
        fault("desk 5", 5);
        fault("plain plain", 6);
        fault("plain ; 3 5", 6);
        fault("plain 3 ; 5", 8);
        fault("plain 3 5 5", 10);
        fault("tiff tiff", 5);
        fault("tiff 5 desk", 7);
        fault("desk tiff 5", 5);
    }

    static void promise4ChangesNothing() {
        QuarrelDesk desk = Checks.written(lived(), "desk;tiff 5");
        C.asked("fault()", desk, desk::fault, Checks.NONE);
        QuarrelDesk other = Checks.written(lived(), "desk;tiff 0");
        C.asked("fault()", other, other::fault, 10);
    }

    // ---- 5: desk

    /** "NOT: it has a FAULT" (and nothing changes: no clause ahead of the fault is done) */
    static void promise5NotByAFault() {
        QuarrelDesk desk = Checks.written(lived(), "desk;plain 5 5;tiff 5;excess 51");
        C.refused("desk()", desk, desk::desk, Checks.NOT);
        C.due("letters", desk.count(8), 31);
    }

    static void promise5NotByAnEmptyText() {
        QuarrelDesk desk = lived();
        C.refused("desk()", desk, desk::desk, Checks.NOT);
        Checks.written(desk, "   ");
        C.refused("desk()", desk, desk::desk, Checks.NOT);
    }

    static void promise5NotLeavesWhatIsKeptAndUndone() {
        QuarrelDesk desk = lived();
        desk.keep(0);
        desk.keep(1);
        Checks.written(desk, "tiff 0").desk();
        C.due("undo()", desk.undo(), 5);
        C.due("back(0)", desk.back(0), 4);
        C.due("back(1)", desk.back(1), 4);
    }

    static void promise5OneAndFourteenClauses() {
        C.due("desk() of 1", written("desk").desk(), 1);
        C.due("desk() of 13", written(FOURTEEN.substring(5)).desk(), 13);
        C.due("desk() of 14", written(FOURTEEN).desk(), 14);
        QuarrelDesk desk = written(FOURTEEN.substring(5) + ";tiff 5");
        C.due("desk() of 14", desk.desk(), 14);
        C.due("the 14th is done", desk.term(3), 5);
    }

    static void promise5NotByAFifteenthClause() {
        C.due("desk() of 15", written(FOURTEEN + ";desk").desk(), Checks.NOT);
    }

    /** "it is empty then" */
    static void promise5LeavesAnEmptyText() {
        QuarrelDesk desk = Checks.told("desk");
        C.due("letters", desk.count(8), 0);
        C.due("fault()", desk.fault(), 0);
        C.due("desk()", desk.desk(), Checks.NOT);
    }

    /** "CLAUSES are done in their order" */
    static void promise5InTheirOrder() {
        terms(Checks.told("excess 1;excess 2"), 2, 40, 2, 12, 30, 6);
        terms(Checks.told("excess 1;desk;cover 3"), 5, 3, 2, 12, 30, 6);
        QuarrelDesk desk = Checks.told("plain 1 1;desk;sulky 2 2;proud 3 3");
        C.due("couples", desk.count(0), 2);
        C.due("the first's KIND", desk.couple(0, 0), 3);
        C.due("the second's KIND", desk.couple(1, 0), 1);
    }

    /** "desk: all as at first" */
    static void promise5DeskIsAllAsAtFirst() {
        QuarrelDesk desk = Checks.told("plain 1 1;excess 1;cover 1;premium 1;tiff 1;break 1;relief 1");
        Checks.further(desk, "desk");
        terms(desk, FIRST);
        C.due("couples", desk.count(0), 0);
        C.due("couple(0, 0)", desk.couple(0, 0), Checks.UNKNOWN);
    }

    /** Those that were are of no count, whatever befell them. */
    static void promise5DeskLeavesNothingOfThoseThatWere() {
        QuarrelDesk desk = Checks.further(lived(), "desk");
        for (int what = 3; what <= 5; what++) {
            C.due("count(" + what + ")", desk.count(what), 0);
        }
        C.due("BALANCE behind 60 days", desk.balance(60), 999999);
        C.due("level(60)", desk.level(60), 0);
        C.due("day()", desk.day(), 0);
        QuarrelDesk sulky = Checks.told("sulky 2 11");
        Checks.days(sulky, 3);
        C.due("VOID", sulky.count(5), 1);
        C.due("VOID behind desk", Checks.further(sulky, "desk").count(5), 0);
        Checks.further(desk, "plain 1 1");
        C.due("take(1, 60, 1)", desk.take(1, 60, 1), 0);
        C.dueOf("a new one", desk, 0, 1, 0, 0, 0, 0, 0, 0, Checks.NONE);
    }

    /** "plain ..: a COUPLE more", each with what its own clause told, within the bounds */
    static void promise5CouplesAtTheirBounds() {
        QuarrelDesk desk = Checks.told("plain 1 0;proud 9 99;sunday 01 00;sulky 9 99");
        int[][] due = {{0, 1, 0}, {1, 9, 99}, {2, 1, 0}, {3, 9, 99}};
        for (int couple = 0; couple < due.length; couple++) {
            for (int what = 0; what < 3; what++) {
                C.due("couple(" + couple + ", " + what + ")", desk.couple(couple, what), due[couple][what]);
            }
        }
    }

    static void promise5TermsAtTheirBounds() {
        terms(Checks.told("excess 0;cover 0;premium 0;tiff 1;break 1;relief 0"), LEAST);
        terms(Checks.told("excess 50;cover 99;premium 50;tiff 99;break 99;relief 20"), MOST);
    }

    static void promise5TermsOfTwoDigits() {
        terms(Checks.told("excess 12;cover 34;premium 45;tiff 67;break 89;relief 10"), 12, 34, 45, 67, 89, 10);
        terms(Checks.told("excess 02;cover 04;premium 05;tiff 07;break 09;relief 00"), 2, 4, 5, 7, 9, 0);
    }

    /** "6 at most" */
    static void promise5SixCouplesAndNoSeventh() {
        QuarrelDesk desk = Checks.told(SIX);
        C.due("couples", desk.count(0), 6);
        Checks.written(desk, "sulky 9 9");
        C.refused("desk() of a seventh", desk, desk::desk, Checks.NOT);
    }

    /** "what earlier texts told stays" */
    static void promise5EarlierTextsStay() {
        QuarrelDesk desk = Checks.told("sulky 4 5;cover 8;excess 7");
        Checks.further(desk, "proud 9 99;excess 6");
        terms(desk, 6, 8, 2, 12, 30, 6);
        C.due("couples", desk.count(0), 2);
        C.due("the earlier one's KIND", desk.couple(0, 0), 3);
        C.due("the later one's KIND", desk.couple(1, 0), 1);
    }

    /** "Behind them it is DAY 0" */
    static void promise5ItIsDay0() {
        C.due("DAY", Checks.further(lived(), "excess 6").count(1), 0);
        C.due("DAY", Checks.further(lived(), "desk").count(1), 0);
    }

    /** "STRAINS .. are as told": of those of earlier texts as well */
    static void promise5StrainsAreAsTold() {
        QuarrelDesk desk = Checks.further(lived(), "plain 1 3");
        int[] strains = {25, 11, 11, 3};
        for (int i = 0; i < strains.length; i++) {
            C.due("couple(" + i + ", 2)", desk.couple(i, 2), strains[i]);
        }
        desk.kiss(0);
        C.due("behind a kiss", Checks.further(desk, "excess 6").couple(0, 2), 25);
    }

    /** "TERMS are as told": not as changed */
    static void promise5TermsAreAsTold() {
        terms(Checks.further(lived(), "excess 6"), 6, 30, 2, 12, 30, 6);
    }

    /** "nobody had a TIFF" */
    static void promise5NobodyHadATiff() {
        QuarrelDesk desk = Checks.told("proud 3 11");
        desk.day();
        C.due("a tiff the day before", desk.as(0, 0), 5);
        Checks.further(desk, "excess 6");
        C.due("none the day before", desk.as(0, 0), 3);
        C.due("TIFFS", desk.couple(0, 6), 0);
        C.due("TIFFS of all", desk.count(4), 0);
    }

    /** "(nobody had) a BREAK" */
    static void promise5NobodyHadABreak() {
        QuarrelDesk desk = Checks.further(lived(), "excess 6");
        C.due("BREAKS", desk.couple(0, 5), 0);
        C.due("BREAKS of all", desk.count(3), 0);
        C.due("the last BREAK", desk.couple(0, 9), Checks.NONE);
        C.due("CLAIMED", desk.couple(0, 8), 0);
    }

    /** "(nobody) is SILENT" */
    static void promise5NobodyIsSilent() {
        QuarrelDesk desk = Checks.told("sulky 2 11");
        desk.day();
        C.due("SILENT", desk.couple(0, 3), 1);
        Checks.further(desk, "excess 6");
        C.due("SILENT", desk.couple(0, 3), 0);
        C.due("GAIN", desk.as(0, 0), 2);
    }

    /** "(nobody is) VOID" */
    static void promise5NobodyIsVoid() {
        QuarrelDesk desk = lived();
        C.due("VOID", desk.couple(1, 4), 1);
        Checks.further(desk, "excess 6");
        C.due("VOID", desk.couple(1, 4), 0);
        C.due("VOID of all", desk.count(5), 0);
    }

    /** "nothing was PAID" */
    static void promise5NothingWasPaid() {
        QuarrelDesk desk = Checks.further(lived(), "excess 6");
        C.due("PAID", desk.couple(0, 7), 0);
        C.due("BALANCE", desk.count(2), 999999);
    }

    /** "nothing is SEEN" */
    static void promise5NothingIsSeen() {
        QuarrelDesk desk = Checks.further(lived(), "excess 6");
        C.due("SEEN", desk.count(6), 0);
        C.due("tempers(0)", desk.tempers(0), 1022);
    }

    /** "nothing is kept" */
    static void promise5NothingIsKept() {
        QuarrelDesk desk = lived();
        desk.keep(0);
        desk.keep(1);
        Checks.further(desk, "excess 6");
        C.due("back(0)", desk.back(0), Checks.NOT);
        C.due("back(1)", desk.back(1), Checks.NOT);
    }

    /** "(nothing) can be undone" */
    static void promise5NothingCanBeUndone() {
        QuarrelDesk desk = Checks.further(lived(), "excess 6");
        C.due("count(7)", desk.count(7), 0);
        C.due("undo()", desk.undo(), Checks.NOT);
    }

    // ---- 6: couple

    /** "UNKNOWN (no such COUPLE)" */
    static void promise6UnknownBesideThoseThatCame() {
        QuarrelDesk desk = Checks.told("plain 4 10;sulky 2 11");
        C.due("couple(1, 1)", desk.couple(1, 1), 2);
        int[] none = {-1, 2, 6, MIN, MAX};
        for (int couple : none) {
            C.due("couple(" + couple + ", 1)", desk.couple(couple, 1), Checks.UNKNOWN);
        }
        C.refused("couple(2, 1)", desk, () -> desk.couple(2, 1), Checks.UNKNOWN);
    }

    static void promise6SixthIsKnownAndNoSeventh() {
        QuarrelDesk desk = Checks.told(SIX);
        C.due("couple(5, 1)", desk.couple(5, 1), 1);
        C.due("couple(6, 1)", desk.couple(6, 1), Checks.UNKNOWN);
    }

    static void promise6UnknownIsOneThatIsNoMore() {
        QuarrelDesk desk = Checks.further(Checks.told(SIX), "desk;plain 1 1");
        C.due("couple(0, 1)", desk.couple(0, 1), 1);
        C.due("couple(1, 1)", desk.couple(1, 1), Checks.UNKNOWN);
    }

    static void promise6WhatIs0To9() {
        QuarrelDesk desk = Checks.told("sunday 4 10");
        C.due("couple(0, 0)", desk.couple(0, 0), 2);
        C.due("couple(0, 9)", desk.couple(0, 9), Checks.NONE);
        int[] outside = {-1, 10, MIN, MAX};
        for (int what : outside) {
            C.due("couple(0, " + what + ")", desk.couple(0, what), Checks.OUTSIDE);
        }
        C.refused("couple(0, 10)", desk, () -> desk.couple(0, 10), Checks.OUTSIDE);
    }

    static void promise6UnknownIsAheadOfOutside() {
        QuarrelDesk desk = Checks.told("plain 4 10");
        C.due("couple(1, 10)", desk.couple(1, 10), Checks.UNKNOWN);
        C.due("couple(-1, -1)", desk.couple(-1, -1), Checks.UNKNOWN);
    }

    /** "the DAY of its last BREAK (9; NONE)" */
    static void promise6LastBreak() {
        QuarrelDesk desk = Checks.told("plain 9 25;tiff 99");
        C.due("none", desk.couple(0, 9), Checks.NONE);
        desk.day();
        C.due("on DAY 0", desk.couple(0, 9), 0);
        Checks.days(desk, 3);
        C.due("of those that were", desk.couple(0, 9), 0);
        desk.day();
        C.due("the last", desk.couple(0, 9), 4);
        C.due("BREAKS", desk.couple(0, 5), 2);
    }

    /** "1 VOID, 0 (4)" */
    static void promise6VoidIs1Or0() {
        QuarrelDesk desk = Checks.told("sulky 2 11");
        C.due("not void", desk.couple(0, 4), 0);
        Checks.days(desk, 3);
        C.due("void", desk.couple(0, 4), 1);
    }

    static void promise6EachPartApart() {
        QuarrelDesk desk = Checks.told("plain 9 25;sulky 3 9;premium 7");
        Checks.days(desk, 4);
        // 34 broke, 9, 18 and 21 with tiffs; 12, 16, 21 and 27 in silence
        int[][] due = {{0, 9, 15, 0, 0, 1, 2, 14, 29, 0}, {3, 3, 27, 4, 1, 0, 0, 0, 0, -1}};
        for (int couple = 0; couple < 2; couple++) {
            for (int what = 0; what < 10; what++) {
                C.due("couple(" + couple + ", " + what + ")", desk.couple(couple, what), due[couple][what]);
            }
        }
    }

    // ---- 7: as

    static void promise7Unknown() {
        QuarrelDesk desk = Checks.told("plain 4 10");
        int[] none = {-1, 1, 6, MIN, MAX};
        for (int couple : none) {
            C.due("as(" + couple + ", 0)", desk.as(couple, 0), Checks.UNKNOWN);
        }
    }

    static void promise7KindIs0To4() {
        QuarrelDesk desk = Checks.told("plain 4 10;sulky 3 10");
        C.due("as(0, 0)", desk.as(0, 0), 4);
        C.due("as(1, 4)", desk.as(1, 4), 3);
        int[] outside = {-1, 5, MIN, MAX};
        for (int kind : outside) {
            C.due("as(0, " + kind + ")", desk.as(0, kind), Checks.OUTSIDE);
        }
    }

    static void promise7UnknownIsAheadOfOutside() {
        QuarrelDesk desk = Checks.told("plain 4 10");
        C.due("as(1, 5)", desk.as(1, 5), Checks.UNKNOWN);
        C.due("as(-1, -1)", desk.as(-1, -1), Checks.UNKNOWN);
    }

    static void promise7UnknownIsAheadOfNot() {
        C.due("as(1, 4)", Checks.told("plain 4 10").as(1, 4), Checks.UNKNOWN);
    }

    /** "COUPLE (0); PLAIN (1) under it; PROUD (2) is PLAIN; SUNDAY (3) is PLAIN; SULKY (4) is a COUPLE", "NOT: it is none such" */
    static void promise7KindsOverOneAnother() {
        QuarrelDesk desk = Checks.told("plain 1 0;proud 2 0;sunday 3 0;sulky 4 0");
        int[][] due = {
            {1, 1, -4, -4, -4},
            {2, 2, 2, -4, -4},
            {3, 3, -4, 3, -4},
            {4, -4, -4, -4, 4}};
        for (int couple = 0; couple < 4; couple++) {
            for (int kind = 0; kind <= 4; kind++) {
                C.due("as(" + couple + ", " + kind + ")", desk.as(couple, kind), due[couple][kind]);
            }
        }
        C.refused("as(3, 1)", desk, () -> desk.as(3, 1), Checks.NOT);
    }

    /** "it answers as what it is, whatever it is taken as" */
    static void promise7AnswersAsWhatItIs() {
        QuarrelDesk desk = Checks.told("proud 3 11;sunday 4 0;sulky 2 11");
        desk.day();
        C.due("proud as COUPLE", desk.as(0, 0), 5);
        C.due("proud as PLAIN", desk.as(0, 1), 5);
        C.due("proud as PROUD", desk.as(0, 2), 5);
        C.due("sulky as COUPLE", desk.as(2, 0), 3);
        C.due("sulky as SULKY", desk.as(2, 4), 3);
        Checks.days(desk, 5);
        C.due("sunday as COUPLE", desk.as(1, 0), 8);
        C.due("sunday as PLAIN", desk.as(1, 1), 8);
        C.due("sunday as SUNDAY", desk.as(1, 3), 8);
    }

    /** "DAYS that leave 6 over by 7 are SUNDAYS", "its GAIN on this DAY" */
    static void promise7SundaysAreEachSeventhDay() {
        QuarrelDesk desk = Checks.told("sunday 4 0;plain 4 0");
        for (int day = 0; day <= 27; day++) {
            boolean isSunday = day == 6 || day == 13 || day == 20 || day == 27;
            C.due("day " + day, desk.as(0, 3), isSunday ? 8 : 4);
            C.due("a plain one on day " + day, desk.as(1, 1), 4);
            desk.day();
        }
    }

    /** "its STRAIN is more by its GAIN (99 at most)": the GAIN itself has no bound */
    static void promise7GainIsWholeAtTheMostStrain() {
        QuarrelDesk desk = Checks.told("plain 9 99;sunday 9 99");
        C.due("as(0, 0)", desk.as(0, 0), 9);
        for (int i = 0; i < 6; i++) {
            desk.day();
        }
        for (int i = 0; i < 10; i++) {
            desk.mother(1);
        }
        C.due("as(1, 0)", desk.as(1, 0), 18);
    }

    static void promise7ChangesNothing() {
        QuarrelDesk desk = lived();
        // 20 and 25 with tiffs, 30 broke, 9 without: no tiff the day before
        C.asked("as(2, 2)", desk, () -> desk.as(2, 2), 9);
    }

    // ---- 8: term

    static void promise8WhatIs0To5() {
        QuarrelDesk desk = new QuarrelDesk();
        C.due("term(0)", desk.term(0), 5);
        C.due("term(5)", desk.term(5), 6);
        int[] outside = {-1, 6, MIN, MAX};
        for (int what : outside) {
            C.refused("term(" + what + ")", desk, () -> desk.term(what), Checks.OUTSIDE);
        }
    }

    static void promise8EachTermApart() {
        terms(Checks.told("excess 1;cover 2;premium 3;tiff 4;break 5;relief 6"), 1, 2, 3, 4, 5, 6);
    }
}
