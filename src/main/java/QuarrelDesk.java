/** A desk where couples insure against the big quarrel and pay by the small one. */
public final class QuarrelDesk {
    public static final int NONE = -1, UNKNOWN = -2, OUTSIDE = -3, NOT = -4, FULL = -5;

    private static final int COUPLES_MOST = 6, STRAIN_MOST = 99, TEMPER_MOST = 9;
    private static final int TERMS = 6, UNDOS_MOST = 8, KEEPS = 2, SEEN_MOST = 6, LAST_DAY = 999;
    private static final int DAYS_AHEAD = 60, KISS_DAYS = 30, SEEN_DAYS = 30, MOTHER_DAYS = 6;
    private static final int PREMIUM_MOST = 50, CHANCES = 10;

    /** What is added to an answer that may be below 0, so that it is no sign of refusal. */
    private static final int LIFT = 999999;

    private static final int[] TERM_LEAST = {0, 0, 0, 1, 1, 0};
    private static final int[] TERM_MOST = {50, 99, PREMIUM_MOST, 99, 99, 20};

    private final Text text;
    private final Couple[] natures;
    /** As the texts told it, never moved by days, so that a further text begins from it again. */
    private final Year told;
    private final Year now;
    private final Year[] kept;
    private final boolean[] isKept;
    /** A ring: what is oldest gives way when one more can be undone. */
    private final Year[] past;
    private int oldest;
    private int undos;
    private final int[] seenCouples;
    private final int[] seenDays;
    private final int[] seenStrains;
    private int seenMany;
    /** The couple on which days are tried; couples do not touch one another, so one is enough. */
    private final Life tried;
    private final int[] brokenOn;

    public QuarrelDesk() {
        Couple plain = new Plain();
        text = new Text();
        natures = new Couple[] {plain, new Proud(), new Sunday(), new Sulky()};
        told = new Year(plain);
        now = new Year(plain);
        kept = new Year[KEEPS];
        for (int i = 0; i < KEEPS; i++) {
            kept[i] = new Year(plain);
        }
        isKept = new boolean[KEEPS];
        past = new Year[UNDOS_MOST];
        for (int i = 0; i < UNDOS_MOST; i++) {
            past[i] = new Year(plain);
        }
        seenCouples = new int[SEEN_MOST];
        seenDays = new int[SEEN_MOST];
        seenStrains = new int[SEEN_MOST];
        tried = new Life(plain);
        brokenOn = new int[DAYS_AHEAD];
    }

    // ---- what is told

    public int write(int letter) {
        if (outside(letter, 0, 255)) {
            return OUTSIDE;
        }
        return text.append(letter) ? text.length : FULL;
    }

    public int erase() {
        int had = text.length;
        text.length = 0;
        return had;
    }

    public int fault() {
        return text.read(told.couples);
    }

    public int desk() {
        if (text.read(told.couples) != NONE) {
            return NOT;
        }
        int clauses = text.clauses;
        for (int i = 0; i < clauses && i < Text.CLAUSES_MOST; i++) {
            tell(text.words[i], text.firsts[i], text.seconds[i]);
        }
        text.length = 0;
        begin();
        return clauses;
    }

    public int couple(int couple, int what) {
        if (unknown(couple)) {
            return UNKNOWN;
        }
        return now.lives[couple].part(what);
    }

    public int as(int couple, int kind) {
        if (unknown(couple)) {
            return UNKNOWN;
        }
        if (outside(kind, 0, 4)) {
            return OUTSIDE;
        }
        Life life = now.lives[couple];
        return isA(life.nature, kind) ? life.nature.gain(life, now.day) : NOT;
    }

    public int term(int what) {
        return outside(what, 0, TERMS - 1) ? OUTSIDE : now.terms.get(what);
    }

    // ---- days

    public int day() {
        if (now.day >= LAST_DAY) {
            return FULL;
        }
        remember();
        return now.pass();
    }

    public int kiss(int couple) {
        if (unknown(couple)) {
            return UNKNOWN;
        }
        remember();
        Life life = now.lives[couple];
        life.beKissed();
        return life.strain;
    }

    public int mother(int couple) {
        if (unknown(couple)) {
            return UNKNOWN;
        }
        remember();
        Life life = now.lives[couple];
        life.beVisited();
        return life.strain;
    }

    public int change(int what, int n) {
        if (outside(what, 0, TERMS - 1) || outside(n, TERM_LEAST[what], TERM_MOST[what])) {
            return OUTSIDE;
        }
        remember();
        int was = now.terms.get(what);
        now.terms.set(what, n);
        return was;
    }

    public int undo() {
        if (undos <= 0) {
            return NOT;
        }
        undos--;
        now.copy(past[pastPlace(undos)]);
        return undos;
    }

    public int keep(int k) {
        if (outside(k, 0, KEEPS - 1)) {
            return UNKNOWN;
        }
        kept[k].copy(now);
        isKept[k] = true;
        return now.day;
    }

    public int back(int k) {
        if (outside(k, 0, KEEPS - 1)) {
            return UNKNOWN;
        }
        if (!isKept[k]) {
            return NOT;
        }
        now.copy(kept[k]);
        undos = 0;
        return now.day;
    }

    // ---- foretold

    public int balance(int n) {
        if (outside(n, 0, DAYS_AHEAD)) {
            return OUTSIDE;
        }
        int sum = 0;
        for (int i = 0; i < now.couples && i < COUPLES_MOST; i++) {
            tryDays(i, n);
            sum += tried.paid - tried.claimed;
        }
        return sum + LIFT;
    }

    public int strain(int couple, int n) {
        if (unknown(couple)) {
            return UNKNOWN;
        }
        if (outside(n, 0, DAYS_AHEAD)) {
            return OUTSIDE;
        }
        tryDays(couple, n);
        return tried.strain;
    }

    public int first(int couple) {
        if (unknown(couple)) {
            return UNKNOWN;
        }
        tried.copy(now.lives[couple]);
        for (int d = 0; d < DAYS_AHEAD; d++) {
            if (tried.pass(now.day + d, now.terms)) {
                return d + 1;
            }
        }
        return NONE;
    }

    public int level(int n) {
        if (outside(n, 1, DAYS_AHEAD)) {
            return OUTSIDE;
        }
        int wholes = 0;
        int halves = 0;
        int claimed = 0;
        for (int i = 0; i < now.couples && i < COUPLES_MOST; i++) {
            Life life = now.lives[i];
            tryDays(i, n);
            int halved = tried.halved - life.halved;
            wholes += tried.tiffs - life.tiffs - halved;
            halves += halved;
            claimed += tried.claimed - life.claimed;
        }
        for (int premium = 0; premium <= PREMIUM_MOST; premium++) {
            if (wholes * premium + halves * (premium / 2) >= claimed) {
                return premium;
            }
        }
        return NONE;
    }

    public int kissOn(int couple, int n) {
        if (unknown(couple)) {
            return UNKNOWN;
        }
        if (outside(n, 1, KISS_DAYS)) {
            return OUTSIDE;
        }
        int best = NONE;
        int least = claimedIfKissed(couple, n, NONE);
        for (int d = 0; d < n; d++) {
            int claimed = claimedIfKissed(couple, n, d);
            if (claimed < least) {
                least = claimed;
                best = d;
            }
        }
        return best;
    }

    public int take(int k, int n, int what) {
        if (outside(k, 0, COUPLES_MOST) || outside(n, 1, DAYS_AHEAD) || outside(what, 0, 1)) {
            return OUTSIDE;
        }
        if (k > now.couples) {
            return NONE;
        }
        foreseeBreaks(n);
        int best = 0;
        int least = COUPLES_MOST + 1;
        for (int set = 0; set < 1 << now.couples; set++) {
            int most = Integer.bitCount(set) == k ? mostAtOnce(set, n) : least;
            if (most < least) {
                least = most;
                best = set;
            }
        }
        return what == 0 ? best : least;
    }

    // ---- what was seen

    public int seen(int couple, int n, int strain) {
        if (unknown(couple)) {
            return UNKNOWN;
        }
        if (outside(n, 1, SEEN_DAYS) || outside(strain, 0, STRAIN_MOST)) {
            return OUTSIDE;
        }
        if (seenMany >= SEEN_MOST) {
            return FULL;
        }
        seenCouples[seenMany] = couple;
        seenDays[seenMany] = n;
        seenStrains[seenMany] = strain;
        seenMany++;
        return seenMany;
    }

    public int forget() {
        int had = seenMany;
        seenMany = 0;
        return had;
    }

    public int tempers(int couple) {
        if (unknown(couple)) {
            return UNKNOWN;
        }
        int bits = 0;
        for (int temper = 1; temper <= TEMPER_MOST; temper++) {
            if (fitsAllSeen(couple, temper)) {
                bits |= 1 << temper;
            }
        }
        return bits;
    }

    public int mothers(int couple, int n, int q, int part) {
        if (unknown(couple)) {
            return UNKNOWN;
        }
        if (outside(n, 0, MOTHER_DAYS) || outside(q, 0, CHANCES) || outside(part, 0, 1)) {
            return OUTSIDE;
        }
        int above = 0;
        for (int visits = 0; visits < 1 << n; visits++) {
            if (breaksByVisits(couple, n, visits)) {
                above += oddsOfVisits(n, visits, q);
            }
        }
        int below = 1;
        for (int d = 0; d < n; d++) {
            below *= CHANCES;
        }
        int common = commonDivisor(above, below);
        return (part == 0 ? above : below) / common;
    }

    public int count(int what) {
        switch (what) {
            case 0: return now.couples;
            case 1: return now.day;
            case 2: return balance(0);
            case 3: return now.breaks();
            case 4: return now.tiffs();
            case 5: return now.voids();
            case 6: return seenMany;
            case 7: return undos;
            case 8: return text.length;
            default: return OUTSIDE;
        }
    }

    // ---- what stands behind these

    private static boolean outside(int n, int least, int most) {
        return n < least || n > most;
    }

    private boolean unknown(int couple) {
        return couple < 0 || couple >= now.couples || couple >= COUPLES_MOST;
    }

    private static boolean isA(Couple couple, int kind) {
        switch (kind) {
            case 0: return true;
            case 1: return couple instanceof Plain;
            case 2: return couple instanceof Proud;
            case 3: return couple instanceof Sunday;
            case 4: return couple instanceof Sulky;
            default: return false;
        }
    }

    private void tell(int word, int first, int second) {
        if (word == Text.DESK) {
            told.clear();
        } else if (Text.isCouple(word)) {
            int kind = word - Text.FIRST_COUPLE;
            if (kind >= 0 && kind < natures.length) {
                told.join(natures[kind], first, second);
            }
        } else {
            told.terms.set(word - Text.FIRST_TERM, first);
        }
    }

    private void begin() {
        now.copy(told);
        for (int i = 0; i < KEEPS; i++) {
            isKept[i] = false;
        }
        undos = 0;
        seenMany = 0;
    }

    private void remember() {
        if (undos >= UNDOS_MOST) {
            oldest = pastPlace(1);
            undos = UNDOS_MOST - 1;
        }
        past[pastPlace(undos)].copy(now);
        undos++;
    }

    private int pastPlace(int fromOldest) {
        return Math.floorMod(oldest + fromOldest, UNDOS_MOST);
    }

    private void tryDays(int couple, int n) {
        tried.copy(now.lives[couple]);
        passTried(n);
    }

    private void passTried(int n) {
        for (int d = 0; d < n; d++) {
            tried.pass(now.day + d, now.terms);
        }
    }

    private int claimedIfKissed(int couple, int n, int kissDay) {
        tried.copy(now.lives[couple]);
        for (int d = 0; d < n; d++) {
            if (d == kissDay) {
                tried.beKissed();
            }
            tried.pass(now.day + d, now.terms);
        }
        return tried.claimed;
    }

    private void foreseeBreaks(int n) {
        for (int d = 0; d < n && d < DAYS_AHEAD; d++) {
            brokenOn[d] = 0;
        }
        for (int i = 0; i < now.couples && i < COUPLES_MOST; i++) {
            tried.copy(now.lives[i]);
            for (int d = 0; d < n && d < DAYS_AHEAD; d++) {
                if (tried.pass(now.day + d, now.terms)) {
                    brokenOn[d] |= 1 << i;
                }
            }
        }
    }

    private int mostAtOnce(int set, int n) {
        int most = 0;
        for (int d = 0; d < n && d < DAYS_AHEAD; d++) {
            most = Math.max(most, Integer.bitCount(brokenOn[d] & set));
        }
        return most;
    }

    private boolean fitsAllSeen(int couple, int temper) {
        for (int i = 0; i < seenMany && i < SEEN_MOST; i++) {
            if (seenCouples[i] == couple && !fits(couple, temper, seenDays[i], seenStrains[i])) {
                return false;
            }
        }
        return true;
    }

    private boolean fits(int couple, int temper, int n, int strain) {
        tried.copy(now.lives[couple]);
        tried.temper = temper;
        passTried(n);
        return tried.strain == strain;
    }

    private boolean breaksByVisits(int couple, int n, int visits) {
        tried.copy(now.lives[couple]);
        for (int d = 0; d < n; d++) {
            if ((visits >> d & 1) != 0) {
                tried.beVisited();
            }
            if (tried.pass(now.day + d, now.terms)) {
                return true;
            }
        }
        return false;
    }

    private static int oddsOfVisits(int n, int visits, int q) {
        int odds = 1;
        for (int d = 0; d < n; d++) {
            odds *= (visits >> d & 1) != 0 ? q : CHANCES - q;
        }
        return odds;
    }

    private static int commonDivisor(int a, int b) {
        int larger = a;
        int smaller = b;
        // Euclid's steps for numbers up to a million are fewer than forty.
        for (int i = 0; i < 64 && smaller > 0; i++) {
            int rest = larger % smaller;
            larger = smaller;
            smaller = rest;
        }
        return Math.max(1, larger);
    }

    /** How couples of a kind answer to days; what befalls one of them stands in its Life. */
    private abstract static class Couple {
        abstract int number();

        int gain(Life life, int day) {
            return life.temper;
        }

        boolean isCovered(int day) {
            return true;
        }

        abstract void quarrel(Life life, int day, Terms terms);

        static boolean isSunday(int day) {
            return day % 7 == 6;
        }
    }

    private static class Plain extends Couple {
        int number() {
            return 0;
        }

        void quarrel(Life life, int day, Terms terms) {
            life.payTiff(day, terms);
        }
    }

    private static final class Proud extends Plain {
        int number() {
            return 1;
        }

        int gain(Life life, int day) {
            return life.hadTiff ? life.temper + 2 : life.temper;
        }
    }

    private static final class Sunday extends Plain {
        int number() {
            return 2;
        }

        int gain(Life life, int day) {
            return isSunday(day) ? 2 * life.temper : life.temper;
        }

        boolean isCovered(int day) {
            return isSunday(day);
        }
    }

    private static final class Sulky extends Couple {
        int number() {
            return 3;
        }

        int gain(Life life, int day) {
            return life.temper + life.silent;
        }

        void quarrel(Life life, int day, Terms terms) {
            life.sulk();
        }
    }

    private static final class Terms {
        int excess;
        int cover;
        int premium;
        int tiff;
        int breaking;
        int relief;

        Terms() {
            clear();
        }

        void clear() {
            excess = 5;
            cover = 40;
            premium = 2;
            tiff = 12;
            breaking = 30;
            relief = 6;
        }

        void copy(Terms other) {
            excess = other.excess;
            cover = other.cover;
            premium = other.premium;
            tiff = other.tiff;
            breaking = other.breaking;
            relief = other.relief;
        }

        int get(int what) {
            switch (what) {
                case 0: return excess;
                case 1: return cover;
                case 2: return premium;
                case 3: return tiff;
                case 4: return breaking;
                default: return relief;
            }
        }

        void set(int what, int n) {
            switch (what) {
                case 0: excess = n; break;
                case 1: cover = n; break;
                case 2: premium = n; break;
                case 3: tiff = n; break;
                case 4: breaking = n; break;
                default: relief = n; break;
            }
        }
    }

    /** One couple as it is. */
    private static final class Life {
        private static final int CALM_DAYS = 10, DAYS_TO_VOID = 3, MOTHER_STRAIN = 10;

        Couple nature;
        int temper;
        int strain;
        int silent;
        boolean isVoid;
        int breaks;
        int tiffs;
        /** Tiffs that cost half: with these LEVEL can tell what any premium would have brought. */
        int halved;
        int paid;
        int claimed;
        int lastBreak;
        boolean hadTiff;

        Life(Couple nature) {
            begin(nature, 1, 0);
        }

        void begin(Couple nature, int temper, int strain) {
            this.nature = nature;
            this.temper = temper;
            this.strain = strain;
            silent = 0;
            isVoid = false;
            breaks = 0;
            tiffs = 0;
            halved = 0;
            paid = 0;
            claimed = 0;
            lastBreak = NONE;
            hadTiff = false;
        }

        void copy(Life other) {
            nature = other.nature;
            temper = other.temper;
            strain = other.strain;
            silent = other.silent;
            isVoid = other.isVoid;
            breaks = other.breaks;
            tiffs = other.tiffs;
            halved = other.halved;
            paid = other.paid;
            claimed = other.claimed;
            lastBreak = other.lastBreak;
            hadTiff = other.hadTiff;
        }

        int part(int what) {
            switch (what) {
                case 0: return nature.number();
                case 1: return temper;
                case 2: return strain;
                case 3: return silent;
                case 4: return isVoid ? 1 : 0;
                case 5: return breaks;
                case 6: return tiffs;
                case 7: return paid;
                case 8: return claimed;
                case 9: return lastBreak;
                default: return OUTSIDE;
            }
        }

        /** Whether it broke on this day. */
        boolean pass(int day, Terms terms) {
            strain = Math.min(STRAIN_MOST, strain + nature.gain(this, day));
            hadTiff = false;
            if (strain >= terms.breaking) {
                breakUp(day, terms);
                return true;
            }
            if (strain >= terms.tiff) {
                nature.quarrel(this, day, terms);
            } else {
                silent = 0;
            }
            return false;
        }

        private void breakUp(int day, Terms terms) {
            if (!isVoid && nature.isCovered(day)) {
                claimed += Math.max(0, Math.min(strain, terms.cover) - terms.excess);
            }
            breaks++;
            lastBreak = day;
            strain = 0;
            silent = 0;
        }

        void payTiff(int day, Terms terms) {
            if (isCalm(day)) {
                halved++;
                paid += terms.premium / 2;
            } else {
                paid += terms.premium;
            }
            tiffs++;
            hadTiff = true;
            strain = Math.max(0, strain - terms.relief);
        }

        private boolean isCalm(int day) {
            return lastBreak == NONE ? day >= CALM_DAYS : day - lastBreak >= CALM_DAYS;
        }

        void sulk() {
            silent++;
            if (silent >= DAYS_TO_VOID) {
                isVoid = true;
            }
        }

        void beKissed() {
            strain = strain / 2;
            silent = 0;
            isVoid = false;
        }

        void beVisited() {
            strain = Math.min(STRAIN_MOST, strain + MOTHER_STRAIN);
        }
    }

    /** All that days change, whole, so that it can be kept and undone. */
    private static final class Year {
        final Terms terms;
        final Life[] lives;
        int couples;
        int day;

        Year(Couple anyKind) {
            terms = new Terms();
            lives = new Life[COUPLES_MOST];
            for (int i = 0; i < COUPLES_MOST; i++) {
                lives[i] = new Life(anyKind);
            }
        }

        void clear() {
            terms.clear();
            couples = 0;
            day = 0;
        }

        void copy(Year other) {
            terms.copy(other.terms);
            for (int i = 0; i < other.couples && i < COUPLES_MOST; i++) {
                lives[i].copy(other.lives[i]);
            }
            couples = other.couples;
            day = other.day;
        }

        void join(Couple nature, int temper, int strain) {
            if (couples >= 0 && couples < COUPLES_MOST) {
                lives[couples].begin(nature, temper, strain);
                couples++;
            }
        }

        /** A day: who broke on it, by bits. */
        int pass() {
            int bits = 0;
            for (int i = 0; i < couples && i < COUPLES_MOST; i++) {
                if (lives[i].pass(day, terms)) {
                    bits |= 1 << i;
                }
            }
            day++;
            return bits;
        }

        int breaks() {
            int sum = 0;
            for (int i = 0; i < couples && i < COUPLES_MOST; i++) {
                sum += lives[i].breaks;
            }
            return sum;
        }

        int tiffs() {
            int sum = 0;
            for (int i = 0; i < couples && i < COUPLES_MOST; i++) {
                sum += lives[i].tiffs;
            }
            return sum;
        }

        int voids() {
            int bits = 0;
            for (int i = 0; i < couples && i < COUPLES_MOST; i++) {
                if (lives[i].isVoid) {
                    bits |= 1 << i;
                }
            }
            return bits;
        }
    }

    /** The letters that were written, and the clauses that they told when last read. */
    private static final class Text {
        static final int CLAUSES_MOST = 14;
        static final int DESK = 0, FIRST_COUPLE = 1, FIRST_TERM = 5;
        private static final int LETTERS_MOST = 160, BLANK = 32, DIGITS_MOST = 2;
        private static final int NO_WORD = -1, NO_NUMBER = -1;
        private static final int SIGN = 0, SMALL = 1, DIGIT = 2;

        /** Each word in a field of the same width; as one text, since none is made by a call. */
        private static final String WORDS =
            "desk   plain  proud  sunday sulky  excess cover  premiumtiff   break  relief ";
        private static final int WORD_WIDTH = 7, WORDS_MANY = 11;

        final int[] words;
        final int[] firsts;
        final int[] seconds;
        int clauses;
        int length;
        private final int[] letters;
        private int begins;
        private int ends;

        Text() {
            letters = new int[LETTERS_MOST];
            words = new int[CLAUSES_MOST];
            firsts = new int[CLAUSES_MOST];
            seconds = new int[CLAUSES_MOST];
        }

        static boolean isCouple(int word) {
            return word >= FIRST_COUPLE && word < FIRST_TERM;
        }

        boolean append(int letter) {
            if (length < 0 || length >= LETTERS_MOST) {
                return false;
            }
            letters[length] = letter;
            length++;
            return true;
        }

        /** The place of the fault, or NONE; told of how many couples there are ahead of it. */
        int read(int couplesBefore) {
            int couples = couplesBefore;
            clauses = 0;
            ends = 0;
            for (int i = 0; i < CLAUSES_MOST; i++) {
                nextToken();
                int word = word();
                if (word == NO_WORD || isCouple(word) && couples >= COUPLES_MOST) {
                    return begins;
                }
                if (!readNumbers(i, word)) {
                    return begins;
                }
                words[i] = word;
                clauses = i + 1;
                couples = word == DESK ? 0 : isCouple(word) ? couples + 1 : couples;
                nextToken();
                if (begins >= length) {
                    return NONE;
                }
                if (letterAt(begins) != ';') {
                    return begins;
                }
            }
            return begins;
        }

        private boolean readNumbers(int clause, int word) {
            if (word == DESK) {
                return true;
            }
            if (isCouple(word)) {
                firsts[clause] = number(1, TEMPER_MOST);
                if (firsts[clause] == NO_NUMBER) {
                    return false;
                }
                seconds[clause] = number(0, STRAIN_MOST);
                return seconds[clause] != NO_NUMBER;
            }
            int term = word - FIRST_TERM;
            if (term < 0 || term >= TERMS) {
                return false;
            }
            firsts[clause] = number(TERM_LEAST[term], TERM_MOST[term]);
            return firsts[clause] != NO_NUMBER;
        }

        private int number(int least, int most) {
            nextToken();
            int digits = ends - begins;
            if (sortAt(begins) != DIGIT || digits > DIGITS_MOST) {
                return NO_NUMBER;
            }
            int n = 0;
            for (int i = begins; i < ends; i++) {
                n = 10 * n + letterAt(i) - '0';
            }
            return outside(n, least, most) ? NO_NUMBER : n;
        }

        private void nextToken() {
            begins = ends;
            while (begins < length && letterAt(begins) == BLANK) {
                begins++;
            }
            int sort = sortAt(begins);
            ends = Math.min(length, begins + 1);
            while (sort != SIGN && ends < length && sortAt(ends) == sort) {
                ends++;
            }
        }

        private int word() {
            if (sortAt(begins) == SMALL && ends - begins <= WORD_WIDTH) {
                for (int word = 0; word < WORDS_MANY; word++) {
                    if (isSpelled(word)) {
                        return word;
                    }
                }
            }
            return NO_WORD;
        }

        private boolean isSpelled(int word) {
            for (int i = 0; i < WORD_WIDTH; i++) {
                int place = begins + i;
                int letter = place < ends ? letterAt(place) : BLANK;
                int sign = word * WORD_WIDTH + i;
                if (sign < 0 || sign >= WORDS.length() || letter != WORDS.charAt(sign)) {
                    return false;
                }
            }
            return true;
        }

        private int sortAt(int place) {
            int letter = letterAt(place);
            if (letter >= 'a' && letter <= 'z') {
                return SMALL;
            }
            return letter >= '0' && letter <= '9' ? DIGIT : SIGN;
        }

        private int letterAt(int place) {
            return place >= 0 && place < length && place < LETTERS_MOST ? letters[place] : BLANK;
        }
    }
}
