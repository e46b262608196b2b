import java.util.function.Supplier;
import java.util.function.ToLongFunction;

/** What the tests by hand share: answers that are due, texts told, tables made, and two cabinets held side by side. */
class Bench {
    static final int LOW = Integer.MIN_VALUE;
    static final int HIGH = Integer.MAX_VALUE;
    static final int NONE = -1;
    private static String about = "";
    private static int checked = 0;
    private static int wrong = 0;

    static void about(String what) {
        about = what;
    }

    static void due(String what, long got, long want) {
        checked++;
        if (got != want) {
            wrong++;
            System.out.println(about + ": " + what + " answered " + got + ", due is " + want);
        }
    }

    static void yes(String what, boolean got) {
        due(what, got ? 1 : 0, 1);
    }

    static void no(String what, boolean got) {
        due(what, got ? 1 : 0, 0);
    }

    static void finish() {
        System.out.println(checked + " answers looked at, " + wrong + " are not as due");
        if (wrong != 0) {
            System.exit(1);
        }
    }

    private static int word(String s, int from) {
        int w = 0;
        for (int i = 0; i < 4; i++) {
            w = w << 8 | (from + i < s.length() ? s.charAt(from + i) : ' ');
        }
        return w;
    }

    /** Twenty bytes of a text, blanks behind its end. */
    static int feed(MarkCabinet x, String text, int from) {
        return x.feed(word(text, from), word(text, from + 4), word(text, from + 8), word(text, from + 12), word(text, from + 16));
    }

    /** The text on an empty tape, and not a byte more. */
    static void tape(MarkCabinet x, String text) {
        for (int p = 0; p < text.length(); p += 20) {
            feed(x, text, p);
        }
        x.end(text.length());
    }

    static int scale(MarkCabinet x, String text) {
        tape(x, text);
        return x.scales();
    }

    static String times(String s, int n) {
        return s.repeat(n);
    }

    /** A text that is refused, on a new cabinet. */
    static void fault(String text, int kind, int place) {
        MarkCabinet x = new MarkCabinet();
        due("\"" + text + "\"", scale(x, text), NONE);
        due("\"" + text + "\" fault(0)", x.fault(0), kind);
        due("\"" + text + "\" fault(1)", x.fault(1), place);
    }

    /** A text that cuts so many marks, on a new cabinet. */
    static void good(String text, int marks) {
        MarkCabinet x = new MarkCabinet();
        due("\"" + text + "\"", scale(x, text), marks);
        due("\"" + text + "\" fault(0)", x.fault(0), 0);
        due("\"" + text + "\" fault(1)", x.fault(1), NONE);
    }

    /** A cabinet whose finds have just these sets of marks: two marks are cut from each measure. */
    static MarkCabinet table(int marks, int... rows) {
        MarkCabinet x = new MarkCabinet();
        for (int f = 0; f < rows.length; f++) {
            x.find();
            for (int m = 0; m < 6; m++) {
                x.tell(0, f, m, rows[f] >> 2 * m & 3, 0);
            }
        }
        StringBuilder text = new StringBuilder();
        for (int i = 0; i < marks; i++) {
            char m = (char) ('a' + i / 2);
            text.append(i % 2 == 1 ? m + ">1;" : m + "=1 or " + m + "=3;");
        }
        scale(x, text.toString());
        return x;
    }

    /** A cabinet with so many finds, of which nothing is told. */
    static MarkCabinet blank(int finds) {
        MarkCabinet x = new MarkCabinet();
        for (int f = 0; f < finds; f++) {
            x.find();
        }
        return x;
    }

    /** n rows, each of one mark alone: row f has mark f. */
    static int[] single(int n) {
        int[] rows = new int[n];
        for (int f = 0; f < n; f++) {
            rows[f] = 1 << f;
        }
        return rows;
    }

    /** What a claim is of a find with a = 7, b = 0, c = 999, and d, e, f not known. */
    static int truth(String claim) {
        MarkCabinet x = blank(1);
        x.tell(0, 0, 0, 7, 0);
        x.tell(0, 0, 1, 0, 0);
        x.tell(0, 0, 2, 999, 0);
        due("\"" + claim + "\" is read", scale(x, claim + ";"), 1);
        return x.mark(0, 0);
    }

    /** A call that is refused: two cabinets made alike, one of them asked, can't be told from one another behind it. */
    static void nothingIsDone(String what, Supplier<MarkCabinet> maker, ToLongFunction<MarkCabinet> refused, long answer) {
        MarkCabinet asked = maker.get();
        due(what, refused.applyAsLong(asked), answer);
        String got = portrait(asked);
        String want = portrait(maker.get());
        checked++;
        if (!got.equals(want)) {
            wrong++;
            System.out.println(about + ": " + what + " has done something\n  it is  " + got + "\n  due is " + want);
        }
    }

    /** All that a cabinet answers, in some 300 calls at most; the last of them use it up. */
    private static String portrait(MarkCabinet x) {
        StringBuilder all = new StringBuilder();
        looked(x, all);
        reckoned(x, all);
        usedUp(x, all);
        return all.toString();
    }

    private static void looked(MarkCabinet x, StringBuilder all) {
        for (int what = 0; what <= 6; what++) {
            put(all, "look", x.look(what));
        }
        put(all, "fault", x.fault(0));
        put(all, "at", x.fault(1));
        for (int f = 0; f < x.look(0); f++) {
            for (int m = 0; m < 6; m++) {
                put(all, "value", x.value(f, m));
            }
            put(all, "sure", x.row(f, 0));
            put(all, "may", x.row(f, 1));
        }
        for (int i = 0; i < x.look(6); i++) {
            put(all, "premise", x.accepted(i, 0));
        }
        put(all, "question", x.question(0));
        put(all, "leads to", x.question(1));
    }

    private static void reckoned(MarkCabinet x, StringBuilder all) {
        int finds = (1 << x.look(0)) - 1;
        int marks = (1 << x.look(1)) - 1;
        for (int mode = 0; mode < 2; mode++) {
            put(all, "concepts", x.concepts(mode));
            put(all, "rules", x.rules(mode));
            put(all, "rows", x.rows(mode, finds, marks));
            put(all, "crosses", x.crosses(mode, finds & 255, marks, 0));
        }
        for (int what = 0; what < 3; what++) {
            put(all, "key", x.key(finds, what));
            put(all, "path", x.path(finds, 0, what));
        }
        put(all, "quarrels", x.quarrel(999, 0, 0));
        put(all, "changed", x.changed(2, 0, 999, 0));
    }

    private static void usedUp(MarkCabinet x, StringBuilder all) {
        put(all, "yes", x.yes());
        put(all, "question", x.question(0));
        put(all, "fed", feed(x, "", 0));
        put(all, "scales", x.scales());
        put(all, "fault", x.fault(0));
        put(all, "at", x.fault(1));
        for (int f = 0; f < x.look(0); f++) {
            put(all, "row", x.row(f, 0));
        }
        for (int day = 8; day <= 10; day++) {
            put(all, "tell", x.tell(1, 0, 0, 3, day) ? 1 : 0);
        }
        put(all, "find", x.find());
    }

    private static void put(StringBuilder all, String what, long answer) {
        all.append(what).append(' ').append(answer).append(", ");
    }
}
