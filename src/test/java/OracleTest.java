import java.util.ArrayList;
import java.util.Arrays;
import java.util.HashMap;
import java.util.List;
import java.util.Map;
import java.util.Random;

/** Random runs of calls against a second cabinet that does what the document says in the most literal way. */
public final class OracleTest {
    private static final int RUNS = 1500;
    private static final int STEPS = 200;
    /** An object's calls come to an end; some runs go there. */
    private static final int MOST_CALLS = 512;
    private static final int LONG_RUNS = 8;
    /** No step has more calls: 40 to feed a text, one to end it, three to read it and its fault. */
    private static final int CALLS_OF_A_STEP = 44;

    public static void main(String[] args) {
        int runs = args.length > 0 ? Integer.parseInt(args[0]) : RUNS;
        long firstSeed = args.length > 1 ? Long.parseLong(args[1]) : 1;
        int wrong = 0;
        int compared = 0;
        for (long seed = firstSeed; seed < firstSeed + runs && wrong < 5; seed++) {
            Run run = new Run(seed);
            for (int c = 0; c < STEPS && run.good && run.mayGoOn(); c++) {
                run.step();
            }
            while (seed % LONG_RUNS == 0 && run.good && run.mayGoOn()) {
                run.step();
            }
            while (seed % LONG_RUNS == 0 && run.good && run.calls < MOST_CALLS) {
                run.lastStep();
            }
            compared += run.log.size();
            if (!run.good) {
                wrong++;
                System.out.println("seed " + seed);
                for (String line : run.log) {
                    System.out.println("  " + line);
                }
            }
        }
        wrong += bigRows();
        System.out.println(compared + " calls compared, " + wrong + " runs are wrong");
        if (wrong != 0) {
            System.exit(1);
        }
    }

    /** Rows of up to 16 finds: counted by a plain table over all sets, and drawn rows looked at one by one. */
    private static int bigRows() {
        int wrong = 0;
        for (long seed = 1; seed <= 60; seed++) {
            Random random = new Random(seed);
            MarkCabinet x = new MarkCabinet();
            int finds = 9 + random.nextInt(8);
            int marks = 1 + random.nextInt(6);
            Naive n = new Naive();
            int[] order = new int[finds];
            for (int f = 0; f < finds; f++) {
                x.find();
                n.find();
                order[f] = f;
            }
            for (int f = finds - 1; f > 0; f--) {
                int g = random.nextInt(f + 1);
                int t = order[f];
                order[f] = order[g];
                order[g] = t;
            }
            StringBuilder text = new StringBuilder();
            for (int m = 0; m < marks; m++) {
                int from = random.nextInt(finds);
                int to = Math.min(finds - 1, from + random.nextInt(5));
                text.append((char) ('a' + m)).append("=1;");
                for (int p = 0; p < finds; p++) {
                    int v = p >= from && p <= to ? 1 : 0;
                    x.tell(0, order[p], m, v, 0);
                    n.tell(0, order[p], m, v, 0);
                }
            }
            feed(x, text.toString());
            feed(n, text.toString());
            x.scales();
            n.scales();
            int all = (1 << finds) - 1;
            int allMarks = (1 << marks) - 1;
            long due = n.countBySets(0, all, allMarks);
            long got = x.rows(0, all, allMarks);
            if (due != got || due < 1) {
                System.out.println("big rows, seed " + seed + ": " + got + ", due is " + due);
                wrong++;
            }
            wrong += drawn(x, n, random, finds, allMarks, got);
        }
        return wrong;
    }

    private static int drawn(MarkCabinet x, Naive n, Random random, int finds, int marks, long rows) {
        int all = (1 << finds) - 1;
        for (int t = 0; t < 8; t++) {
            long k = t == 0 ? 0 : t == 1 ? rows - 1 : Math.floorMod(random.nextLong(), rows);
            int[] row = new int[finds];
            for (int i = 0; i < finds; i++) {
                row[i] = x.place(0, all, marks, k, i);
            }
            long rank = n.rankBySets(0, row, all, marks);
            if (rank != k) {
                System.out.println("row " + k + " of " + rows + " is " + Arrays.toString(row) + ", which is row " + rank);
                return 1;
            }
        }
        return 0;
    }

    static int word(String s, int from) {
        int w = 0;
        for (int i = 0; i < 4; i++) {
            w = w << 8 | (from + i < s.length() ? s.charAt(from + i) : ' ');
        }
        return w;
    }

    static void feed(MarkCabinet x, String text) {
        for (int p = 0; p < text.length(); p += 20) {
            x.feed(word(text, p), word(text, p + 4), word(text, p + 8), word(text, p + 12), word(text, p + 16));
        }
        x.end(text.length());
    }

    static void feed(Naive x, String text) {
        for (int p = 0; p < text.length(); p += 20) {
            x.feed(word(text, p), word(text, p + 4), word(text, p + 8), word(text, p + 12), word(text, p + 16));
        }
        x.end(text.length());
    }

    /** One run: the same calls on both, and what they were. */
    static final class Run {
        final Random random;
        final MarkCabinet x = new MarkCabinet();
        final Naive n = new Naive();
        final List<String> log = new ArrayList<>();
        boolean good = true;
        int calls = 0;
        int day = 0;
        final int style;
        int m = 0;
        int f = 0;
        int s = 0;

        Run(long seed) {
            random = new Random(seed);
            style = random.nextInt(6);
            if (style >= 4) {
                dense();
                return;
            }
            int finds = random.nextInt(style == 0 ? 17 : 8);
            for (int f = 0; f < finds; f++) {
                same("find()", x.find(), n.find());
            }
            int told = random.nextInt(60);
            for (int t = 0; t < told; t++) {
                tell();
            }
            if (random.nextInt(8) != 0) {
                scales(goodText(1 + random.nextInt(style == 1 ? 12 : 6)));
            }
        }

        /** Every find told of every measure (or nearly), and two marks from each measure, so that any table can come. */
        void dense() {
            int finds = 3 + random.nextInt(14);
            int gaps = random.nextInt(3) * 30;
            for (int f = 0; f < finds; f++) {
                same("find()", x.find(), n.find());
                int bound = random.nextInt(4) == 0 ? 4096 : random.nextInt(4096) | random.nextInt(4096);
                int bits = random.nextInt(4096) & bound;
                for (int m = 0; m < 6; m++) {
                    int v = gaps != 0 && random.nextInt(gaps) == 0 ? -1 : bits >> 2 * m & 3;
                    same("tell(0, " + f + ", " + m + ", " + v + ", 0)", x.tell(0, f, m, v, 0), n.tell(0, f, m, v, 0));
                }
            }
            int marks = 3 + random.nextInt(10);
            StringBuilder text = new StringBuilder();
            for (int i = 0; i < marks; i++) {
                char m = (char) ('a' + i / 2);
                text.append(i % 2 == 0 ? m + ">1;" : m + "=1 or " + m + "=3;");
            }
            scales(text.toString());
        }

        boolean mayGoOn() {
            return calls + CALLS_OF_A_STEP <= MOST_CALLS;
        }

        void same(String call, long got, long due) {
            calls++;
            log.add(call + " = " + got + (got == due ? "" : "   WRONG, due is " + due));
            good = good && got == due;
        }

        void same(String call, boolean got, boolean due) {
            same(call, got ? 1 : 0, due ? 1 : 0);
        }

        int odd(int below) {
            int r = random.nextInt(40);
            if (r == 0) {
                return -1;
            }
            if (r == 1) {
                return below;
            }
            if (r == 2) {
                return random.nextInt();
            }
            return below <= 0 ? 0 : random.nextInt(below);
        }

        int mode() {
            return odd(2);
        }

        int markSet() {
            return odd(1 << n.marks.size());
        }

        int findSet() {
            return random.nextInt(4) == 0 ? (1 << n.finds) - 1 : odd(1 << n.finds);
        }

        int smallFindSet(int most) {
            int set = findSet();
            while (set >= 0 && Integer.bitCount(set) > most) {
                set &= set - 1;
            }
            return set;
        }

        int what(int plain, int listed) {
            int r = random.nextInt(30);
            if (r == 0) {
                return random.nextInt(14) - 2;
            }
            if (r == 1) {
                return random.nextInt();
            }
            return random.nextInt(3) == 0 || listed == 0 ? random.nextInt(plain) : 10 + random.nextInt(listed);
        }

        void tell() {
            int keeper = odd(2);
            int f = odd(n.finds);
            int m = odd(random.nextInt(3) == 0 ? 6 : 3);
            int v = random.nextInt(10) == 0 ? -1 : random.nextInt(20) == 0 ? odd(1000) : random.nextInt(4);
            if (random.nextInt(6) == 0) {
                day = Math.min(999, day + random.nextInt(5));
            }
            int d = random.nextInt(15) == 0 ? odd(1000) : day;
            if (random.nextInt(4) != 0 && d > day) {
                d = day;
            }
            boolean due = n.tell(keeper, f, m, v, d);
            same("tell(" + keeper + ", " + f + ", " + m + ", " + v + ", " + d + ")", x.tell(keeper, f, m, v, d), due);
            if (due) {
                day = d;
            }
        }

        String goodText(int marks) {
            StringBuilder s = new StringBuilder();
            for (int i = 0; i < marks && s.length() < 700; i++) {
                s.append(claims(random.nextInt(3))).append(gap()).append(';').append(gap());
            }
            return s.toString();
        }

        String gap() {
            int r = random.nextInt(6);
            return r == 0 ? " " : r == 1 ? "\n" : "";
        }

        String claims(int depth) {
            StringBuilder s = new StringBuilder(claim(depth));
            for (int n = 0; n < 3 && random.nextInt(4) == 0; n++) {
                s.append(random.nextBoolean() ? " or " : " and ").append(claim(depth));
            }
            return s.toString();
        }

        String claim(int depth) {
            int r = random.nextInt(8);
            if (r == 0) {
                return "known" + (random.nextBoolean() ? " " : "\n") + measure();
            }
            if (r == 1 && depth > 0) {
                return "not " + claim(depth - 1);
            }
            if (r == 2 && depth > 0) {
                return "(" + gap() + claims(depth - 1) + gap() + ")";
            }
            if (r < 6) {
                return measure() + gap() + "<=>".charAt(random.nextInt(3)) + gap() + random.nextInt(4);
            }
            return sum() + gap() + "<=>".charAt(random.nextInt(3)) + gap() + sum();
        }

        String sum() {
            StringBuilder s = new StringBuilder(unit());
            for (int n = 0; n < 5 && random.nextInt(2) == 0; n++) {
                int r = random.nextInt(4);
                s.append(gap()).append("+-*/".charAt(r)).append(gap());
                s.append(r == 3 ? "" + (1 + random.nextInt(random.nextBoolean() ? 4 : 9999)) : unit());
            }
            return s.toString();
        }

        String unit() {
            int r = random.nextInt(3);
            return r == 0 ? "" + random.nextInt(random.nextInt(4) == 0 ? 10000 : 5) : measure();
        }

        String measure() {
            return "" + (char) ('a' + random.nextInt(random.nextInt(3) == 0 ? 6 : 3));
        }

        String spoilt(String text) {
            StringBuilder s = new StringBuilder(text);
            int times = 1 + random.nextInt(2);
            for (int t = 0; t < times; t++) {
                int at = s.length() == 0 ? 0 : random.nextInt(s.length() + 1);
                int r = random.nextInt(6);
                if (r == 0 && at < s.length()) {
                    s.deleteCharAt(at);
                } else if (r == 1) {
                    s.setLength(at);
                } else if (r == 2) {
                    s.insert(at, junk());
                } else if (r == 3) {
                    s.insert(at, "/0");
                } else if (r == 4) {
                    s.insert(at, "not not (not ((not not( not (");
                } else if (at < s.length()) {
                    s.setCharAt(at, junk().charAt(0));
                }
            }
            return s.length() > 800 ? s.substring(0, 800) : s.toString();
        }

        String junk() {
            String[] kinds = {"x", "or", "and", " not ", "known", "(", ")", ";", "12345", "0000", "0", "#", "\t", "a",
                "+", "<", "=", "/", "*", "B", "" + (char) 233, "" + (char) 0, " ", "known a", "notnot"};
            return kinds[random.nextInt(kinds.length)];
        }

        void scales(String text) {
            feed(x, text);
            feed(n, text);
            calls += (text.length() + 19) / 20 + 1;
            same("feed \"" + text.replace("\n", "\\n") + "\", scales()", x.scales(), n.scales());
            same("fault(0)", x.fault(0), n.fault(0));
            same("fault(1)", x.fault(1), n.fault(1));
        }

        void step() {
            int which = random.nextInt(36);
            if (style >= 4 && which < 7 && random.nextInt(8) != 0) {
                which = 20;
            }
            switch (which) {
                case 0:
                    if (random.nextInt(4) == 0) {
                        same("find()", x.find(), n.find());
                    }
                    break;
                case 1:
                case 2:
                case 3:
                    tell();
                    break;
                case 4: {
                    int k = odd(3);
                    int d = random.nextInt(3) == 0 ? odd(1000) : random.nextInt(day + 2);
                    same("view(" + k + ", " + d + ")", x.view(k, d), n.view(k, d));
                    break;
                }
                case 5: {
                    int f = odd(n.finds);
                    int m = odd(6);
                    same("value(" + f + ", " + m + ")", x.value(f, m), n.value(f, m));
                    break;
                }
                case 6:
                    if (random.nextInt(3) == 0) {
                        String text = goodText(random.nextInt(14));
                        scales(random.nextInt(3) != 0 ? spoilt(text) : text);
                    }
                    break;
                case 7: {
                    int w = odd(2);
                    same("fault(" + w + ")", x.fault(w), n.fault(w));
                    break;
                }
                case 8:
                case 9: {
                    int f = odd(n.finds);
                    int i = odd(n.marks.size());
                    same("mark(" + f + ", " + i + ")", x.mark(f, i), n.mark(f, i));
                    break;
                }
                case 10: {
                    int w = odd(7);
                    same("look(" + w + ")", x.look(w), n.look(w));
                    break;
                }
                case 11: {
                    int f = odd(n.finds);
                    int m = mode();
                    same("row(" + f + ", " + m + ")", x.row(f, m), n.row(f, m));
                    break;
                }
                case 12: {
                    int s = markSet();
                    int m = mode();
                    same("have(" + s + ", " + m + ")", x.have(s, m), n.have(s, m));
                    break;
                }
                case 13: {
                    int s = markSet();
                    int m = mode();
                    same("close(" + s + ", " + m + ")", x.close(s, m), n.close(s, m));
                    break;
                }
                case 14: {
                    int m = mode();
                    same("concepts(" + m + ")", x.concepts(m), n.concepts(m));
                    break;
                }
                case 15: {
                    int m = mode();
                    int i = odd(Math.max(1, n.concepts(m)) + 1);
                    same("concept(" + m + ", " + i + ")", x.concept(m, i), n.concept(m, i));
                    break;
                }
                case 16: {
                    int m = mode();
                    int s = random.nextBoolean() ? markSet() : n.close(markSet(), m);
                    same("number(" + m + ", " + s + ")", x.number(m, s), n.number(m, s));
                    break;
                }
                default:
                    stepOn();
            }
        }

        /** One call alone, so that the last one of a run is an object's last one. */
        void lastStep() {
            int f = findSet();
            int m = mode();
            int w = odd(3);
            switch (random.nextInt(5)) {
                case 0:
                    same("key(" + f + ", " + w + ")", x.key(f, w), n.key(f, w));
                    break;
                case 1:
                    same("concepts(" + m + ")", x.concepts(m), n.concepts(m));
                    break;
                case 2:
                    same("rules(" + m + ")", x.rules(m), n.rules(m));
                    break;
                case 3:
                    same("question(" + w + ")", x.question(w), n.question(w));
                    break;
                default:
                    tell();
                    break;
            }
        }

        void stepOn() {
            switch (random.nextInt(19)) {
                case 0: {
                    int m = mode();
                    same("rules(" + m + ")", x.rules(m), n.rules(m));
                    break;
                }
                case 1: {
                    int m = mode();
                    int i = odd(Math.max(1, n.rules(m)) + 1);
                    int w = odd(2);
                    same("rule(" + m + ", " + i + ", " + w + ")", x.rule(m, i, w), n.rule(m, i, w));
                    break;
                }
                case 2:
                case 3: {
                    int m = mode();
                    int s = markSet();
                    int w = what(2, 4);
                    same("follow(" + m + ", " + s + ", " + w + ")", x.follow(m, s, w), n.follow(m, s, w));
                    break;
                }
                case 4: {
                    int m = mode();
                    int p = markSet();
                    int c = markSet();
                    same("against(" + m + ", " + p + ", " + c + ")", x.against(m, p, c), n.against(m, p, c));
                    break;
                }
                case 5: {
                    if (random.nextInt(4) == 0) {
                        int m = mode();
                        same("explore(" + m + ")", x.explore(m), n.explore(m));
                    }
                    break;
                }
                case 6: {
                    int w = odd(2);
                    same("question(" + w + ")", x.question(w), n.question(w));
                    break;
                }
                case 7:
                    same("yes()", x.yes(), n.yes());
                    break;
                case 8: {
                    int s = markSet();
                    if (random.nextInt(4) != 0 && n.question(0) >= 0) {
                        int c = n.question(1);
                        s = n.question(0) | random.nextInt() & (1 << n.exploredMarks) - 1;
                        int lacked = c & ~n.question(0);
                        s &= random.nextInt(5) == 0 ? -1 : ~(lacked & random.nextInt()) | n.question(0);
                    }
                    same("no(" + s + ")", x.no(s), n.no(s));
                    break;
                }
                case 9: {
                    int i = odd(Math.max(1, n.look(6)) + 1);
                    int w = odd(2);
                    same("accepted(" + i + ", " + w + ")", x.accepted(i, w), n.accepted(i, w));
                    break;
                }
                case 10: {
                    choose(6);
                    same("rows(" + m + ", " + f + ", " + s + ")", x.rows(m, f, s), n.rows(m, f, s));
                    break;
                }
                case 11:
                    place();
                    break;
                case 12: {
                    choose(random.nextInt(60) == 0 ? 9 : 6);
                    for (int t = 0; t < 4; t++) {
                        int w = what(1, 9);
                        same("crosses(" + m + ", " + f + ", " + s + ", " + w + ")", x.crosses(m, f, s, w), n.crosses(m, f, s, w));
                    }
                    break;
                }
                case 13: {
                    int i = odd(12);
                    int c = random.nextInt(12) - 1;
                    same("cost(" + i + ", " + c + ")", x.cost(i, c), n.cost(i, c));
                    break;
                }
                case 14: {
                    int f = findSet();
                    int w = odd(3);
                    same("key(" + f + ", " + w + ")", x.key(f, w), n.key(f, w));
                    break;
                }
                case 15: {
                    int s = findSet();
                    int f = odd(n.finds);
                    int w = what(3, 5);
                    same("path(" + s + ", " + f + ", " + w + ")", x.path(s, f, w), n.path(s, f, w));
                    break;
                }
                case 16: {
                    int d = random.nextInt(4) == 0 ? odd(1000) : random.nextInt(day + 2);
                    int by = random.nextInt(5) == 0 ? odd(1000) : random.nextInt(3);
                    int w = what(1, 6);
                    same("quarrel(" + d + ", " + by + ", " + w + ")", x.quarrel(d, by, w), n.quarrel(d, by, w));
                    break;
                }
                case 17: {
                    int k = odd(3);
                    int from = random.nextInt(6) == 0 ? odd(1000) : random.nextInt(day + 2);
                    int to = random.nextInt(6) == 0 ? odd(1000) : random.nextInt(day + 2);
                    int w = what(1, 12);
                    same("changed(" + k + ", " + from + ", " + to + ", " + w + ")", x.changed(k, from, to, w), n.changed(k, from, to, w));
                    break;
                }
                default: {
                    if (random.nextInt(4) == 0) {
                        int e = random.nextInt(25) - 2;
                        int a = random.nextInt();
                        same("feed(" + a + ", ...)", x.feed(a, 0, 1, -1, a), n.feed(a, 0, 1, -1, a));
                        same("end(" + e + ")", x.end(e), n.end(e));
                        if (random.nextBoolean()) {
                            same("scales()", x.scales(), n.scales());
                            same("fault(0)", x.fault(0), n.fault(0));
                            same("fault(1)", x.fault(1), n.fault(1));
                        } else {
                            same("end(0)", x.end(0), n.end(0));
                        }
                    }
                    break;
                }
            }
        }

        /** A mode, finds and marks for a row: often those of the last time, whatever has changed since. */
        void choose(int most) {
            if (random.nextInt(3) == 0) {
                return;
            }
            m = mode();
            f = smallFindSet(most);
            s = markSet();
            if (random.nextBoolean() && s >= 0) {
                s &= random.nextInt();
            }
        }

        void place() {
            choose(6);
            long rows = n.rows(m, f, s);
            for (int t = 0; t < 3; t++) {
                long k = rows > 0 && random.nextInt(10) != 0 ? Math.floorMod(random.nextLong(), rows) : random.nextInt(4) - 1 + rows;
                int i = odd(6);
                same("place(" + m + ", " + f + ", " + s + ", " + k + ", " + i + ")", x.place(m, f, s, k, i), n.place(m, f, s, k, i));
            }
        }
    }

    /** The document's words, one by one, with no thought of speed. */
    static final class Naive {
        int finds = 0;
        final List<int[]> tellings = new ArrayList<>();
        int viewKeeper = 0;
        int viewDay = 999;
        final StringBuilder tape = new StringBuilder();
        List<List<String>> marks = new ArrayList<>();
        int fault = 0;
        int faultPlace = -1;
        final int[] costs = new int[12];
        boolean exploring = false;
        int exploredMarks = 0;
        final List<Integer> examples = new ArrayList<>();
        final List<int[]> acceptedRules = new ArrayList<>();

        Naive() {
            Arrays.fill(costs, 1);
        }

        int find() {
            return finds == 16 ? -1 : finds++;
        }

        boolean tell(int keeper, int f, int measure, int v, int day) {
            boolean can = in(keeper, 0, 1) && in(f, 0, finds - 1) && in(measure, 0, 5) && in(v, -1, 999) && in(day, 0, 999)
                && tellings.size() < 400 && (tellings.isEmpty() || tellings.get(tellings.size() - 1)[4] <= day);
            if (can) {
                tellings.add(new int[] {keeper, f, measure, v, day});
            }
            return can;
        }

        static boolean in(int n, int from, int to) {
            return n >= from && n <= to;
        }

        int told(int keeper, int f, int measure, int day) {
            int v = -1;
            for (int[] t : tellings) {
                if (t[0] == keeper && t[1] == f && t[2] == measure && t[4] <= day) {
                    v = t[3];
                }
            }
            return v;
        }

        int knownTo(int keeper, int f, int measure, int day) {
            if (keeper < 2) {
                return told(keeper, f, measure, day);
            }
            int a = told(0, f, measure, day);
            int b = told(1, f, measure, day);
            if (a >= 0 && b >= 0) {
                return a == b ? a : -1;
            }
            return Math.max(a, b);
        }

        boolean view(int keeper, int day) {
            if (!in(keeper, 0, 2) || !in(day, 0, 999)) {
                return false;
            }
            viewKeeper = keeper;
            viewDay = day;
            return true;
        }

        int value(int f, int measure) {
            return in(f, 0, finds - 1) && in(measure, 0, 5) ? knownTo(viewKeeper, f, measure, viewDay) : -1;
        }

        int feed(int... words) {
            if (tape.length() > 780) {
                return -1;
            }
            for (int w : words) {
                tape.append((char) (w >>> 24)).append((char) (w >> 16 & 255)).append((char) (w >> 8 & 255)).append((char) (w & 255));
            }
            return tape.length();
        }

        boolean end(int n) {
            if (n < 0 || n > tape.length()) {
                return false;
            }
            tape.setLength(n);
            return true;
        }

        /** Tokens as texts, a place for each; what is none keeps its signs. */
        static void cut(String text, List<String> tokens, List<Integer> places) {
            for (int p = 0; p < text.length(); ) {
                char c = text.charAt(p);
                int q = p + 1;
                if (("" + c).matches("[a-zA-Z]")) {
                    while (q < text.length() && ("" + text.charAt(q)).matches("[a-zA-Z]")) {
                        q++;
                    }
                } else if (("" + c).matches("[0-9]")) {
                    while (q < text.length() && ("" + text.charAt(q)).matches("[0-9]")) {
                        q++;
                    }
                }
                if (c != 32 && c != 10) {
                    tokens.add(text.substring(p, q));
                    places.add(p);
                }
                p = q;
            }
            tokens.add("");
            places.add(text.length());
        }

        /**
         * The faults by states: B a claim is due, U a unit, D a divisor, M a measure, L behind a unit on the left side of a
         * comparison, R on its right side, C behind a claim.
         */
        int scales() {
            String text = tape.toString();
            tape.setLength(0);
            List<String> tokens = new ArrayList<>();
            List<Integer> places = new ArrayList<>();
            cut(text, tokens, places);
            List<List<String>> cutMarks = new ArrayList<>();
            List<String> now = new ArrayList<>();
            List<String> open = new ArrayList<>();
            char state = 'B';
            boolean left = true;
            fault = 0;
            faultPlace = -1;
            for (int t = 0; t < tokens.size() && fault == 0; t++) {
                String k = tokens.get(t);
                boolean number = k.matches("[0-9]{1,4}");
                boolean unit = number || k.matches("[a-f]");
                char next = 'X';
                if (now.isEmpty() && k.isEmpty()) {
                    break;
                }
                if (now.isEmpty() && cutMarks.size() == 12) {
                    fault = 3;
                    faultPlace = places.get(t);
                    break;
                }
                if (state == 'R' && !k.matches("[-+*/]")) {
                    state = 'C';
                    while (!open.isEmpty() && open.get(open.size() - 1).equals("not")) {
                        open.remove(open.size() - 1);
                    }
                }
                if (state == 'B' && (k.equals("not") || k.equals("("))) {
                    next = 'B';
                    open.add(k);
                } else if (state == 'B' && k.equals("known")) {
                    next = 'M';
                } else if (state == 'B' && unit) {
                    next = 'L';
                    left = true;
                } else if (state == 'M' && k.matches("[a-f]")) {
                    next = 'C';
                    while (!open.isEmpty() && open.get(open.size() - 1).equals("not")) {
                        open.remove(open.size() - 1);
                    }
                } else if (state == 'U' && unit || state == 'D' && number) {
                    next = left ? 'L' : 'R';
                } else if ((state == 'L' || state == 'R') && k.matches("[-+*]")) {
                    next = 'U';
                } else if ((state == 'L' || state == 'R') && k.equals("/")) {
                    next = 'D';
                } else if (state == 'L' && k.matches("[<=>]")) {
                    next = 'U';
                    left = false;
                } else if (state == 'C' && (k.equals("or") || k.equals("and"))) {
                    next = 'B';
                } else if (state == 'C' && k.equals(")") && open.contains("(")) {
                    open.remove(open.size() - 1);
                    while (!open.isEmpty() && open.get(open.size() - 1).equals("not")) {
                        open.remove(open.size() - 1);
                    }
                    next = 'C';
                } else if (state == 'C' && k.equals(";") && open.isEmpty()) {
                    next = 'E';
                }
                if (next == 'X') {
                    fault = 1;
                } else if (open.size() > 8) {
                    fault = 3;
                } else if (state == 'D' && Integer.parseInt(k) == 0) {
                    fault = 2;
                }
                faultPlace = fault == 0 ? -1 : places.get(t);
                if (next == 'E') {
                    cutMarks.add(now);
                    now = new ArrayList<>();
                    next = 'B';
                } else {
                    now.add(k);
                }
                state = next;
            }
            if (fault != 0) {
                return -1;
            }
            marks = cutMarks;
            return marks.size();
        }

        int fault(int what) {
            return what == 0 ? fault : what == 1 ? faultPlace : -1;
        }

        /** Where a token stands outside all brackets: the last such place, or -1. */
        static int lastOutside(List<String> k, String... which) {
            int open = 0;
            for (int i = k.size() - 1; i >= 0; i--) {
                open += k.get(i).equals(")") ? 1 : k.get(i).equals("(") ? -1 : 0;
                if (open == 0 && Arrays.asList(which).contains(k.get(i))) {
                    return i;
                }
            }
            return -1;
        }

        int truth(List<String> k, int[] measures) {
            int at = lastOutside(k, "or");
            if (at >= 0) {
                int a = truth(k.subList(0, at), measures);
                int b = truth(k.subList(at + 1, k.size()), measures);
                return a == 1 || b == 1 ? 1 : a == 2 || b == 2 ? 2 : 0;
            }
            at = lastOutside(k, "and");
            if (at >= 0) {
                int a = truth(k.subList(0, at), measures);
                int b = truth(k.subList(at + 1, k.size()), measures);
                return a == 0 || b == 0 ? 0 : a == 2 || b == 2 ? 2 : 1;
            }
            if (k.get(0).equals("not")) {
                int a = truth(k.subList(1, k.size()), measures);
                return a == 2 ? 2 : 1 - a;
            }
            if (k.get(0).equals("(")) {
                return truth(k.subList(1, k.size() - 1), measures);
            }
            if (k.get(0).equals("known")) {
                return measures[k.get(1).charAt(0) - 'a'] >= 0 ? 1 : 0;
            }
            for (String t : k) {
                if (t.matches("[a-f]") && measures[t.charAt(0) - 'a'] < 0) {
                    return 2;
                }
            }
            at = lastOutside(k, "<", "=", ">");
            int a = sum(k.subList(0, at), measures);
            int b = sum(k.subList(at + 1, k.size()), measures);
            boolean so = k.get(at).equals("<") ? a < b : k.get(at).equals("=") ? a == b : a > b;
            return so ? 1 : 0;
        }

        int sum(List<String> k, int[] measures) {
            int at = lastOutside(k, "+", "-");
            if (at < 0) {
                at = lastOutside(k, "*", "/");
            }
            if (at < 0) {
                String t = k.get(0);
                return t.matches("[a-f]") ? measures[t.charAt(0) - 'a'] : Integer.parseInt(t);
            }
            int a = sum(k.subList(0, at), measures);
            int b = sum(k.subList(at + 1, k.size()), measures);
            switch (k.get(at)) {
                case "+":
                    return a + b;
                case "-":
                    return a - b;
                case "*":
                    return a * b;
                default:
                    return a / b;
            }
        }

        int markBy(int keeper, int day, int f, int i) {
            int[] measures = new int[6];
            for (int m = 0; m < 6; m++) {
                measures[m] = knownTo(keeper, f, m, day);
            }
            return truth(marks.get(i), measures);
        }

        int mark(int f, int i) {
            return in(f, 0, finds - 1) && in(i, 0, marks.size() - 1) ? markBy(viewKeeper, viewDay, f, i) : -1;
        }

        int look(int what) {
            switch (what) {
                case 0: return finds;
                case 1: return marks.size();
                case 2: return tellings.size();
                case 3: return viewKeeper;
                case 4: return viewDay;
                case 5: return exploring ? examples.size() : -1;
                case 6: return exploring ? acceptedRules.size() : -1;
                default: return -2;
            }
        }

        int row(int f, int mode) {
            if (!in(f, 0, finds - 1) || !in(mode, 0, 1)) {
                return -1;
            }
            int set = 0;
            for (int i = 0; i < marks.size(); i++) {
                int m = mark(f, i);
                if (m == 1 || m == 2 && mode == 1) {
                    set += 1 << i;
                }
            }
            return set;
        }

        boolean canMarks(int set) {
            return in(set, 0, (1 << marks.size()) - 1);
        }

        boolean canFinds(int set) {
            return in(set, 0, (1 << finds) - 1);
        }

        List<Integer> table(int mode) {
            List<Integer> t = new ArrayList<>();
            for (int f = 0; f < finds; f++) {
                t.add(row(f, mode));
            }
            return t;
        }

        static boolean has(int set, int part) {
            return (set & part) == part;
        }

        int have(int set, int mode) {
            if (!canMarks(set) || !in(mode, 0, 1)) {
                return -1;
            }
            int found = 0;
            for (int f = 0; f < finds; f++) {
                if (has(row(f, mode), set)) {
                    found += 1 << f;
                }
            }
            return found;
        }

        static int closure(List<Integer> rows, int marks, int set) {
            int c = (1 << marks) - 1;
            for (int r : rows) {
                if (has(r, set)) {
                    c &= r;
                }
            }
            return c;
        }

        int close(int set, int mode) {
            return canMarks(set) && in(mode, 0, 1) ? closure(table(mode), marks.size(), set) : -1;
        }

        /** THE ORDER, word for word: the one that lacks the least mark in which they differ comes first. */
        static int order(int a, int b) {
            for (int i = 0; i < 12; i++) {
                if ((a >> i & 1) != (b >> i & 1)) {
                    return (a >> i & 1) == 0 ? -1 : 1;
                }
            }
            return 0;
        }

        static List<Integer> ordered(int marks) {
            List<Integer> all = new ArrayList<>();
            for (int s = 0; s < 1 << marks; s++) {
                all.add(s);
            }
            all.sort(Naive::order);
            return all;
        }

        List<Integer> closedSets(int mode) {
            List<Integer> rows = table(mode);
            List<Integer> closed = new ArrayList<>();
            for (int s : ordered(marks.size())) {
                if (closure(rows, marks.size(), s) == s) {
                    closed.add(s);
                }
            }
            return closed;
        }

        int concepts(int mode) {
            return in(mode, 0, 1) ? closedSets(mode).size() : -1;
        }

        int concept(int mode, int i) {
            return in(mode, 0, 1) && in(i, 0, concepts(mode) - 1) ? closedSets(mode).get(i) : -1;
        }

        int number(int mode, int set) {
            return in(mode, 0, 1) ? closedSets(mode).indexOf(set) : -1;
        }

        List<int[]> ruleList(int mode) {
            List<Integer> rows = table(mode);
            List<int[]> rules = new ArrayList<>();
            for (int p : ordered(marks.size())) {
                int c = closure(rows, marks.size(), p);
                boolean premise = c != p;
                for (int[] q : rules) {
                    premise = premise && (!has(p, q[0]) || has(p, q[1]));
                }
                if (premise) {
                    rules.add(new int[] {p, c});
                }
            }
            return rules;
        }

        int rules(int mode) {
            return in(mode, 0, 1) ? ruleList(mode).size() : -1;
        }

        int rule(int mode, int i, int what) {
            return in(mode, 0, 1) && in(i, 0, rules(mode) - 1) && in(what, 0, 1) ? ruleList(mode).get(i)[what] : -1;
        }

        int follow(int mode, int set, int what) {
            if (!in(mode, 0, 1) || !canMarks(set)) {
                return -1;
            }
            List<int[]> rules = ruleList(mode);
            List<Integer> steps = new ArrayList<>();
            int s = set;
            boolean more = true;
            while (more) {
                more = false;
                for (int i = 0; i < rules.size() && !more; i++) {
                    if (has(s, rules.get(i)[0]) && !has(s, rules.get(i)[1])) {
                        s |= rules.get(i)[1];
                        steps.add(i);
                        more = true;
                    }
                }
            }
            if (what == 0) {
                return s;
            }
            return what == 1 ? steps.size() : what >= 10 && what - 10 < steps.size() ? steps.get(what - 10) : -1;
        }

        int against(int mode, int premise, int conclusion) {
            if (!in(mode, 0, 1) || !canMarks(premise) || !canMarks(conclusion)) {
                return -1;
            }
            int set = 0;
            for (int f = 0; f < finds; f++) {
                if (has(row(f, mode), premise) && !has(row(f, mode), conclusion)) {
                    set += 1 << f;
                }
            }
            return set;
        }

        int explore(int mode) {
            if (!in(mode, 0, 1)) {
                return -1;
            }
            exploring = true;
            exploredMarks = marks.size();
            examples.clear();
            examples.addAll(table(mode));
            acceptedRules.clear();
            return examples.size();
        }

        boolean keeps(int s) {
            for (int[] r : acceptedRules) {
                if (has(s, r[0]) && !has(s, r[1])) {
                    return false;
                }
            }
            return true;
        }

        int question(int what) {
            if (!exploring || !in(what, 0, 1)) {
                return -1;
            }
            for (int s : ordered(exploredMarks)) {
                int c = closure(examples, exploredMarks, s);
                if (c != s && keeps(s)) {
                    return what == 0 ? s : c;
                }
            }
            return -1;
        }

        int yes() {
            if (question(0) < 0 || acceptedRules.size() == 60) {
                return -1;
            }
            acceptedRules.add(new int[] {question(0), question(1)});
            return acceptedRules.size();
        }

        int no(int set) {
            if (question(0) < 0 || !in(set, 0, (1 << exploredMarks) - 1) || examples.size() == 40) {
                return -1;
            }
            if (!has(set, question(0)) || has(set, question(1)) || !keeps(set)) {
                return -1;
            }
            examples.add(set);
            return examples.size();
        }

        int accepted(int i, int what) {
            return exploring && in(i, 0, acceptedRules.size() - 1) && in(what, 0, 1) ? acceptedRules.get(i)[what] : -1;
        }

        static List<Integer> members(int set) {
            List<Integer> m = new ArrayList<>();
            for (int f = 0; f < 16; f++) {
                if ((set >> f & 1) == 1) {
                    m.add(f);
                }
            }
            return m;
        }

        /** All orders, as words. */
        static List<int[]> orders(int set) {
            List<int[]> all = new ArrayList<>();
            List<Integer> m = members(set);
            extend(m, new int[m.size()], 0, all);
            return all;
        }

        private static void extend(List<Integer> left, int[] row, int at, List<int[]> all) {
            if (left.isEmpty()) {
                all.add(row.clone());
            }
            for (int i = 0; i < left.size(); i++) {
                List<Integer> rest = new ArrayList<>(left);
                row[at] = rest.remove(i);
                extend(rest, row, at + 1, all);
            }
        }

        static int crossesOf(int[] order, List<Integer> rows, int marks) {
            int sum = 0;
            for (int i = 0; i < 12; i++) {
                if ((marks >> i & 1) == 1) {
                    int having = 0;
                    int run = 0;
                    int longest = 0;
                    for (int f : order) {
                        boolean has = (rows.get(f) >> i & 1) == 1;
                        having += has ? 1 : 0;
                        run = has ? run + 1 : 0;
                        longest = Math.max(longest, run);
                    }
                    sum += having - longest;
                }
            }
            return sum;
        }

        List<int[]> rowList(int mode, int set, int marks) {
            List<Integer> rows = table(mode);
            List<int[]> good = new ArrayList<>();
            for (int[] order : orders(set)) {
                if (crossesOf(order, rows, marks) == 0) {
                    good.add(order);
                }
            }
            return good;
        }

        long rows(int mode, int set, int marks) {
            return in(mode, 0, 1) && canFinds(set) && canMarks(marks) ? rowList(mode, set, marks).size() : -1;
        }

        int place(int mode, int set, int marks, long k, int i) {
            if (!in(mode, 0, 1) || !canFinds(set) || !canMarks(marks) || !in(i, 0, Integer.bitCount(set) - 1)) {
                return -1;
            }
            List<int[]> good = rowList(mode, set, marks);
            return k >= 0 && k < good.size() ? good.get((int) k)[i] : -1;
        }

        boolean mayFollow(List<Integer> rows, int used, int f, int all, int marks) {
            for (int i = 0; i < 12; i++) {
                if ((marks >> i & 1) == 1 && (rows.get(f) >> i & 1) == 0) {
                    boolean begun = false;
                    boolean lacking = false;
                    for (int g = 0; g < finds; g++) {
                        if ((all >> g & 1) == 1 && (rows.get(g) >> i & 1) == 1) {
                            begun |= (used >> g & 1) == 1;
                            lacking |= (used >> g & 1) == 0;
                        }
                    }
                    if (begun && lacking) {
                        return false;
                    }
                }
            }
            return true;
        }

        long[] behind(List<Integer> rows, int all, int marks) {
            long[] behind = new long[all + 1];
            behind[all] = 1;
            for (int used = all - 1; used >= 0; used--) {
                for (int f = 0; f < finds; f++) {
                    if ((used >> f & 1) == 0 && behind[used | 1 << f] != 0 && mayFollow(rows, used, f, all, marks)) {
                        behind[used] += behind[used | 1 << f];
                    }
                }
            }
            return behind;
        }

        private long[] lastBehind = null;
        private List<Integer> lastRows = null;

        long countBySets(int mode, int all, int marks) {
            lastRows = table(mode);
            lastBehind = behind(lastRows, all, marks);
            return lastBehind[0];
        }

        /** The number of a row among all rows; -1 if it is none. */
        long rankBySets(int mode, int[] row, int all, int marks) {
            long rank = 0;
            int used = 0;
            for (int f : row) {
                if (f < 0 || (used >> f & 1) == 1 || !mayFollow(lastRows, used, f, all, marks)) {
                    return -1;
                }
                for (int g = 0; g < f; g++) {
                    if ((used >> g & 1) == 0 && mayFollow(lastRows, used, g, all, marks)) {
                        rank += lastBehind[used | 1 << g];
                    }
                }
                used |= 1 << f;
            }
            return used == all ? rank : -1;
        }

        int crosses(int mode, int set, int marks, int what) {
            if (!in(mode, 0, 1) || !canFinds(set) || !canMarks(marks) || Integer.bitCount(set) > 8) {
                return -1;
            }
            if (what != 0 && (what < 10 || what - 10 >= Integer.bitCount(set))) {
                return -1;
            }
            List<Integer> rows = table(mode);
            int least = Integer.MAX_VALUE;
            int[] best = null;
            for (int[] order : orders(set)) {
                int sum = crossesOf(order, rows, marks);
                if (sum < least) {
                    least = sum;
                    best = order;
                }
            }
            return what == 0 ? least : best[what - 10];
        }

        boolean cost(int i, int c) {
            if (!in(i, 0, 11) || !in(c, 1, 9)) {
                return false;
            }
            costs[i] = c;
            return true;
        }

        /** worst, mark (or -1), leaves of a set. */
        int[] plan(int set, int[][] table, Map<Integer, int[]> plans) {
            if (plans.containsKey(set)) {
                return plans.get(set);
            }
            int[] best = {0, -1, 1};
            for (int i = 0; i < marks.size(); i++) {
                int with = 0;
                boolean open = false;
                for (int f : members(set)) {
                    open |= table[f][i] == 2;
                    with += table[f][i] == 1 ? 1 << f : 0;
                }
                if (!open && with != 0 && with != set) {
                    int[] a = plan(with, table, plans);
                    int[] b = plan(set - with, table, plans);
                    int sum = costs[i] + Math.max(a[0], b[0]);
                    if (best[1] < 0 || sum < best[0]) {
                        best = new int[] {sum, i, a[2] + b[2]};
                    }
                }
            }
            plans.put(set, best);
            return best;
        }

        int[][] truths() {
            int[][] t = new int[finds][marks.size()];
            for (int f = 0; f < finds; f++) {
                for (int i = 0; i < marks.size(); i++) {
                    t[f][i] = mark(f, i);
                }
            }
            return t;
        }

        int key(int set, int what) {
            return canFinds(set) && set != 0 && in(what, 0, 2) ? plan(set, truths(), new HashMap<>())[what] : -1;
        }

        int path(int set, int f, int what) {
            if (!canFinds(set) || !in(f, 0, finds - 1) || (set >> f & 1) == 0) {
                return -1;
            }
            int[][] t = truths();
            Map<Integer, int[]> plans = new HashMap<>();
            List<Integer> asked = new ArrayList<>();
            int spent = 0;
            int left = set;
            while (plan(left, t, plans)[1] >= 0) {
                int i = plan(left, t, plans)[1];
                asked.add(i);
                spent += costs[i];
                for (int g : members(left)) {
                    left -= t[g][i] != t[f][i] ? 1 << g : 0;
                }
            }
            if (what >= 10) {
                return what - 10 < asked.size() ? asked.get(what - 10) : -1;
            }
            return what == 0 ? asked.size() : what == 1 ? spent : what == 2 ? left : -1;
        }

        static int listed(List<Integer> list, int what) {
            return what == 0 ? list.size() : what >= 10 && what - 10 < list.size() ? list.get(what - 10) : -1;
        }

        int quarrel(int day, int by, int what) {
            if (!in(day, 0, 999) || !in(by, 0, 999)) {
                return -1;
            }
            List<Integer> all = new ArrayList<>();
            for (int f = 0; f < finds; f++) {
                for (int m = 0; m < 6; m++) {
                    int a = told(0, f, m, day);
                    int b = told(1, f, m, day);
                    if (a >= 0 && b >= 0 && (a - b > by || b - a > by)) {
                        all.add(6 * f + m);
                    }
                }
            }
            return listed(all, what);
        }

        int changed(int keeper, int from, int to, int what) {
            if (!in(keeper, 0, 2) || !in(from, 0, 999) || !in(to, 0, 999)) {
                return -1;
            }
            List<Integer> all = new ArrayList<>();
            for (int f = 0; f < finds; f++) {
                for (int i = 0; i < marks.size(); i++) {
                    if (markBy(keeper, from, f, i) != markBy(keeper, to, f, i)) {
                        all.add(12 * f + i);
                    }
                }
            }
            return listed(all, what);
        }
    }
}
