import java.math.BigInteger;
import java.util.ArrayDeque;
import java.util.ArrayList;
import java.util.Arrays;
import java.util.List;
import java.util.Random;
import java.util.regex.Matcher;
import java.util.regex.Pattern;

/** Many runs of calls by chance (of fixed seeds), each answer beside that of a plainer model. */
public final class ModelTest {
    private static final int RUNS = 1500, CALLS = 512;
    private static final String[] KINDS = {"plain", "proud", "sunday", "sulky"};
    private static final String[] TERMS = {"excess", "cover", "premium", "tiff", "break", "relief"};
    private static final int[] FIRST = {5, 40, 2, 12, 30, 6};
    private static final int[] LEAST = {0, 0, 0, 1, 1, 0};
    private static final int[] MOST = {50, 99, 50, 99, 99, 20};

    public static void main(String[] args) {
        Checks checks = new Checks();
        for (int run = 0; run < RUNS; run++) {
            new Run(run, checks).go();
        }
        checks.end();
    }

    /** A couple as the model has it; days are told by their numbers, not by marks. */
    private static final class Pair implements Cloneable {
        int kind, temper, strain, silent, breaks, tiffs, paid, claimed;
        int lastBreak = -1, lastTiff = -5;
        boolean gone;

        Pair(int kind, int temper, int strain) {
            this.kind = kind;
            this.temper = temper;
            this.strain = strain;
        }

        Pair twin() {
            try {
                return (Pair) clone();
            } catch (CloneNotSupportedException e) {
                throw new IllegalStateException(e);
            }
        }

        int gain(int day) {
            int gain = temper;
            if (kind == 1 && lastTiff == day - 1) gain += 2;
            if (kind == 2 && day % 7 == 6) gain *= 2;
            if (kind == 3) gain += silent;
            return gain;
        }
    }

    /** The state without THE TEXT, SEEN and what is kept. */
    private static final class State {
        int day;
        int[] terms = FIRST.clone();
        List<Pair> pairs = new ArrayList<>();

        State twin() {
            State s = new State();
            s.day = day;
            s.terms = terms.clone();
            for (Pair p : pairs) s.pairs.add(p.twin());
            return s;
        }

        int pass() {
            int broke = 0;
            for (int i = 0; i < pairs.size(); i++) {
                Pair p = pairs.get(i);
                p.strain = Math.min(99, p.strain + p.gain(day));
                if (p.strain >= terms[4]) {
                    broke += 1 << i;
                    boolean nothing = p.gone || p.kind == 2 && day % 7 != 6;
                    p.claimed += nothing ? 0 : Math.max(0, Math.min(p.strain, terms[1]) - terms[0]);
                    p.breaks++;
                    p.lastBreak = day;
                    p.strain = 0;
                    p.silent = 0;
                } else if (p.strain < terms[3]) {
                    p.silent = 0;
                } else if (p.kind == 3) {
                    p.silent++;
                    p.gone = p.gone || p.silent == 3;
                } else {
                    int since = p.lastBreak < 0 ? day : day - p.lastBreak;
                    p.paid += since >= 10 ? terms[2] / 2 : terms[2];
                    p.tiffs++;
                    p.lastTiff = day;
                    p.strain = Math.max(0, p.strain - terms[5]);
                }
            }
            day++;
            return broke;
        }

        State behind(int n) {
            State s = twin();
            for (int i = 0; i < n; i++) s.pass();
            return s;
        }

        void kiss(int couple) {
            Pair p = pairs.get(couple);
            p.strain /= 2;
            p.silent = 0;
            p.gone = false;
        }

        void mother(int couple) {
            Pair p = pairs.get(couple);
            p.strain = Math.min(99, p.strain + 10);
        }

        int paid() {
            return pairs.stream().mapToInt(p -> p.paid).sum();
        }

        int claimed() {
            return pairs.stream().mapToInt(p -> p.claimed).sum();
        }
    }

    private static final class Model {
        StringBuilder text = new StringBuilder();
        State told = new State();
        State now = new State();
        State[] kept = new State[2];
        ArrayDeque<State> past = new ArrayDeque<>();
        List<int[]> seen = new ArrayList<>();

        int write(int letter) {
            if (letter < 0 || letter > 255) return -3;
            if (text.length() == 160) return -5;
            return text.append((char) letter).length();
        }

        int erase() {
            int had = text.length();
            text.setLength(0);
            return had;
        }

        /** Does the clauses on a state of their own; the fault, or minus the clauses less 1. */
        int read(State s) {
            List<String> tokens = new ArrayList<>();
            List<Integer> places = new ArrayList<>();
            Matcher m = Pattern.compile("[a-z]+|[0-9]+|[^ ]", Pattern.DOTALL).matcher(text);
            while (m.find()) {
                tokens.add(m.group());
                places.add(m.start());
            }
            tokens.add("");
            places.add(text.length());
            int at = 0;
            for (int clauses = 1; ; clauses++) {
                String word = tokens.get(at);
                int kind = Arrays.asList(KINDS).indexOf(word);
                int term = Arrays.asList(TERMS).indexOf(word);
                if (kind < 0 && term < 0 && !word.equals("desk")) return places.get(at);
                if (kind >= 0 && s.pairs.size() == 6) return places.get(at);
                at++;
                if (kind >= 0) {
                    if (!number(tokens.get(at), 1, 9)) return places.get(at);
                    if (!number(tokens.get(at + 1), 0, 99)) return places.get(at + 1);
                    s.pairs.add(new Pair(kind, Integer.parseInt(tokens.get(at)), Integer.parseInt(tokens.get(at + 1))));
                    at += 2;
                } else if (term >= 0) {
                    if (!number(tokens.get(at), LEAST[term], MOST[term])) return places.get(at);
                    s.terms[term] = Integer.parseInt(tokens.get(at));
                    at++;
                } else {
                    s.pairs.clear();
                    s.terms = FIRST.clone();
                }
                if (tokens.get(at).isEmpty()) return -1 - clauses;
                if (!tokens.get(at).equals(";") || clauses == 14) return places.get(at);
                at++;
            }
        }

        static boolean number(String token, int least, int most) {
            if (!token.matches("[0-9][0-9]?")) return false;
            int n = Integer.parseInt(token);
            return n >= least && n <= most;
        }

        int fault() {
            return Math.max(-1, read(told.twin()));
        }

        int desk() {
            State s = told.twin();
            int r = read(s);
            if (r >= 0) return -4;
            told = s;
            now = s.twin();
            kept = new State[2];
            past.clear();
            seen.clear();
            text.setLength(0);
            return -r - 1;
        }

        boolean no(int couple) {
            return couple < 0 || couple >= now.pairs.size();
        }

        static boolean out(int n, int least, int most) {
            return n < least || n > most;
        }

        int couple(int couple, int what) {
            if (no(couple)) return -2;
            if (out(what, 0, 9)) return -3;
            Pair p = now.pairs.get(couple);
            return new int[] {p.kind, p.temper, p.strain, p.silent, p.gone ? 1 : 0, p.breaks, p.tiffs, p.paid, p.claimed, p.lastBreak}[what];
        }

        int as(int couple, int kind) {
            if (no(couple)) return -2;
            if (out(kind, 0, 4)) return -3;
            Pair p = now.pairs.get(couple);
            String under = new String[] {"0123", "012", "1", "2", "3"}[kind];
            return under.contains("" + p.kind) ? p.gain(now.day) : -4;
        }

        int term(int what) {
            return out(what, 0, 5) ? -3 : now.terms[what];
        }

        void remember() {
            past.addLast(now.twin());
            if (past.size() > 8) past.removeFirst();
        }

        int day() {
            if (now.day == 999) return -5;
            remember();
            return now.pass();
        }

        int kiss(int couple) {
            if (no(couple)) return -2;
            remember();
            now.kiss(couple);
            return now.pairs.get(couple).strain;
        }

        int mother(int couple) {
            if (no(couple)) return -2;
            remember();
            now.mother(couple);
            return now.pairs.get(couple).strain;
        }

        int change(int what, int n) {
            if (out(what, 0, 5) || out(n, LEAST[what], MOST[what])) return -3;
            remember();
            int was = now.terms[what];
            now.terms[what] = n;
            return was;
        }

        int undo() {
            if (past.isEmpty()) return -4;
            now = past.removeLast();
            return past.size();
        }

        int keep(int k) {
            if (out(k, 0, 1)) return -2;
            kept[k] = now.twin();
            return now.day;
        }

        int back(int k) {
            if (out(k, 0, 1)) return -2;
            if (kept[k] == null) return -4;
            now = kept[k].twin();
            past.clear();
            return now.day;
        }

        int balance(int n) {
            if (out(n, 0, 60)) return -3;
            State s = now.behind(n);
            return s.paid() - s.claimed() + 999999;
        }

        int strain(int couple, int n) {
            if (no(couple)) return -2;
            if (out(n, 0, 60)) return -3;
            return now.behind(n).pairs.get(couple).strain;
        }

        int first(int couple) {
            if (no(couple)) return -2;
            State s = now.twin();
            for (int n = 1; n <= 60; n++) {
                if ((s.pass() & 1 << couple) != 0) return n;
            }
            return -1;
        }

        int level(int n) {
            if (out(n, 1, 60)) return -3;
            for (int premium = 0; premium <= 50; premium++) {
                State s = now.twin();
                s.terms[2] = premium;
                State t = s.behind(n);
                if (t.paid() - s.paid() >= t.claimed() - s.claimed()) return premium;
            }
            return -1;
        }

        int kissOn(int couple, int n) {
            if (no(couple)) return -2;
            if (out(n, 1, 30)) return -3;
            int least = now.behind(n).claimed();
            int best = -1;
            for (int d = 0; d < n; d++) {
                State s = now.behind(d);
                s.kiss(couple);
                int claimed = s.behind(n - d).claimed();
                if (claimed < least) {
                    least = claimed;
                    best = d;
                }
            }
            return best;
        }

        int take(int k, int n, int what) {
            if (out(k, 0, 6) || out(n, 1, 60) || out(what, 0, 1)) return -3;
            State s = now.twin();
            int[] broke = new int[n];
            for (int d = 0; d < n; d++) broke[d] = s.pass();
            int best = -1, least = -1;
            for (int set = (1 << now.pairs.size()) - 1; set >= 0; set--) {
                if (Integer.bitCount(set) != k) continue;
                int here = set;
                int most = Arrays.stream(broke).map(b -> Integer.bitCount(b & here)).max().getAsInt();
                if (best < 0 || most <= least) {
                    best = set;
                    least = most;
                }
            }
            return what == 0 ? best : least;
        }

        int seen(int couple, int n, int strain) {
            if (no(couple)) return -2;
            if (out(n, 1, 30) || out(strain, 0, 99)) return -3;
            if (seen.size() == 6) return -5;
            seen.add(new int[] {couple, n, strain});
            return seen.size();
        }

        int forget() {
            int had = seen.size();
            seen.clear();
            return had;
        }

        int tempers(int couple) {
            if (no(couple)) return -2;
            int bits = 0;
            for (int t = 1; t <= 9; t++) {
                boolean all = true;
                for (int[] one : seen) {
                    State s = now.twin();
                    s.pairs.get(couple).temper = t;
                    all = all && (one[0] != couple || s.behind(one[1]).pairs.get(couple).strain == one[2]);
                }
                if (all) bits |= 1 << t;
            }
            return bits;
        }

        /** How many of 10 to the n ways break, day upon day. */
        BigInteger ways(State s, int couple, int n, int q) {
            if (n == 0) return BigInteger.ZERO;
            BigInteger sum = BigInteger.ZERO;
            for (int comes = 0; comes < 2; comes++) {
                State t = s.twin();
                if (comes == 1) t.mother(couple);
                boolean broke = (t.pass() & 1 << couple) != 0;
                BigInteger rest = broke ? BigInteger.TEN.pow(n - 1) : ways(t, couple, n - 1, q);
                sum = sum.add(rest.multiply(BigInteger.valueOf(comes == 1 ? q : 10 - q)));
            }
            return sum;
        }

        int mothers(int couple, int n, int q, int part) {
            if (no(couple)) return -2;
            if (out(n, 0, 6) || out(q, 0, 10) || out(part, 0, 1)) return -3;
            BigInteger above = ways(now, couple, n, q);
            BigInteger below = BigInteger.TEN.pow(n);
            return (part == 0 ? above : below).divide(above.gcd(below)).intValueExact();
        }

        int count(int what) {
            switch (what) {
                case 0: return now.pairs.size();
                case 1: return now.day;
                case 2: return now.paid() - now.claimed() + 999999;
                case 3: return now.pairs.stream().mapToInt(p -> p.breaks).sum();
                case 4: return now.pairs.stream().mapToInt(p -> p.tiffs).sum();
                case 5:
                    int bits = 0;
                    for (int i = 0; i < now.pairs.size(); i++) {
                        if (now.pairs.get(i).gone) bits += 1 << i;
                    }
                    return bits;
                case 6: return seen.size();
                case 7: return past.size();
                case 8: return text.length();
                default: return -3;
            }
        }
    }

    private static final class Run {
        final int run;
        final Random random;
        final Checks checks;
        final QuarrelDesk desk = new QuarrelDesk();
        final Model model = new Model();
        int calls;

        Run(int run, Checks checks) {
            this.run = run;
            this.checks = checks;
            random = new Random(run);
        }

        void go() {
            text();
            while (calls < CALLS) {
                if (random.nextInt(60) == 0) {
                    text();
                } else {
                    call();
                }
            }
        }

        /** Mostly within the bounds, now and then beside them. */
        int from(int least, int most) {
            int near = random.nextInt(25);
            if (near == 0) return least - 1;
            if (near == 1) return most + 1;
            if (near == 2) return random.nextInt();
            if (near == 3) return most;
            return least + random.nextInt(most - least + 1);
        }

        void due(String call, int got, int want) {
            calls++;
            checks.due("run " + run + ", call " + calls + ": " + call, got, want);
        }

        void text() {
            StringBuilder text = new StringBuilder();
            int clauses = 1 + random.nextInt(random.nextInt(8) == 0 ? 16 : 8);
            for (int i = 0; i < clauses; i++) {
                if (i > 0) text.append(random.nextInt(4) == 0 ? " ; " : ";");
                clause(text);
            }
            if (random.nextInt(4) == 0) {
                int at = random.nextInt(text.length());
                String odd = "; 059zaP-" + (char) 9 + (char) 200;
                text.setCharAt(at, odd.charAt(random.nextInt(odd.length())));
            }
            if (random.nextInt(12) == 0) text.setLength(random.nextInt(text.length()));
            for (char letter : text.toString().toCharArray()) {
                due("write", desk.write(letter), model.write(letter));
            }
            due("fault", desk.fault(), model.fault());
            int before = model.text.length();
            due("desk", desk.desk(), model.desk());
            if (model.text.length() == before) due("erase", desk.erase(), model.erase());
        }

        void clause(StringBuilder text) {
            int word = random.nextInt(20);
            String blank = random.nextInt(4) == 0 ? "" : random.nextInt(4) == 0 ? "  " : " ";
            if (word == 0) {
                text.append("desk");
            } else if (word < 11) {
                text.append(KINDS[random.nextInt(4)]).append(blank);
                text.append(random.nextInt(25) == 0 ? random.nextInt(120) : 1 + random.nextInt(9)).append(' ');
                text.append(random.nextInt(25) == 0 ? random.nextInt(120) : random.nextInt(40));
            } else {
                int term = random.nextInt(6);
                text.append(TERMS[term]).append(blank);
                int most = random.nextBoolean() ? MOST[term] : Math.min(MOST[term], 2 * FIRST[term]);
                int n = LEAST[term] + random.nextInt(most - LEAST[term] + 1);
                text.append(random.nextInt(25) == 0 ? random.nextInt(120) : n);
            }
        }

        int someone() {
            return model.now.pairs.isEmpty() ? from(0, 5) : from(0, model.now.pairs.size() - 1);
        }

        void call() {
            int c = someone();
            int n = from(1, 60);
            int k = from(0, 6);
            switch (random.nextInt(30)) {
                case 0: due("couple", desk.couple(c, k + 3), model.couple(c, k + 3)); break;
                case 1: due("as", desk.as(c, n = from(0, 4)), model.as(c, n)); break;
                case 2: due("term", desk.term(k), model.term(k)); break;
                case 3: due("kiss", desk.kiss(c), model.kiss(c)); break;
                case 4: due("mother", desk.mother(c), model.mother(c)); break;
                case 5: change(); break;
                case 6: due("undo", desk.undo(), model.undo()); break;
                case 7: due("keep", desk.keep(n = from(0, 1)), model.keep(n)); break;
                case 8: due("back", desk.back(n = from(0, 1)), model.back(n)); break;
                case 9: due("balance", desk.balance(n), model.balance(n)); break;
                case 10: due("strain", desk.strain(c, n), model.strain(c, n)); break;
                case 11: due("first", desk.first(c), model.first(c)); break;
                case 12: due("level", desk.level(n), model.level(n)); break;
                case 13: due("kissOn", desk.kissOn(c, n = from(1, 30)), model.kissOn(c, n)); break;
                case 14: take(k, n); break;
                case 15: seen(c); break;
                case 16: if (random.nextInt(5) == 0) due("forget", desk.forget(), model.forget()); break;
                case 17: due("tempers", desk.tempers(c), model.tempers(c)); break;
                case 18: mothers(c, k); break;
                case 19: due("write", desk.write(n = from(0, 255)), model.write(n)); break;
                case 20: due("erase", desk.erase(), model.erase()); break;
                case 21: for (int i = -1; i < 10; i++) due("count " + i, desk.count(i), model.count(i)); break;
                case 22: for (int i = -1; i < 11; i++) due("couple " + i, desk.couple(c, i), model.couple(c, i)); break;
                default: due("day", desk.day(), model.day()); break;
            }
        }

        void change() {
            int what = from(0, 5);
            int term = Math.floorMod(what, 6);
            int n = from(LEAST[term], MOST[term]);
            due("change", desk.change(what, n), model.change(what, n));
        }

        void take(int k, int n) {
            int what = from(0, 1);
            due("take", desk.take(k, n, what), model.take(k, n, what));
        }

        void mothers(int c, int n) {
            int q = from(0, 10);
            int part = from(0, 1);
            due("mothers", desk.mothers(c, n, q, part), model.mothers(c, n, q, part));
        }

        /** Half of what is seen is what another temper would bring, so that some fit. */
        void seen(int c) {
            int n = from(1, 30);
            int strain = from(0, 99);
            if (!model.no(c) && n >= 1 && n <= 30 && random.nextInt(4) > 0) {
                State s = model.now.twin();
                s.pairs.get(c).temper = 1 + random.nextInt(9);
                strain = s.behind(n).pairs.get(c).strain;
            }
            due("seen", desk.seen(c, n, strain), model.seen(c, n, strain));
            due("tempers", desk.tempers(c), model.tempers(c));
        }
    }
}
