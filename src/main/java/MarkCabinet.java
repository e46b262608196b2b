import java.util.Arrays;

/** A cabinet of finds against marks, as ../shared/DOC.md promises it. */
public final class MarkCabinet {
    public static final int NONE = -1;

    private static final int MOST_FINDS = 16;
    private static final int MEASURES = 6;
    private static final int SLOTS = MOST_FINDS * MEASURES;
    private static final int BOTH = 2;
    private static final int GREATEST = 999;
    private static final int LAST_DAY = 999;
    private static final int MOST_TELLINGS = 400;
    private static final int MOST_BYTES = 800;
    private static final int FED_BYTES = 20;
    private static final int MOST_MARKS = 12;
    private static final int MOST_OPEN = 8;
    private static final int MOST_EXAMPLES = 40;
    private static final int MOST_ACCEPTED = 60;
    private static final int MOST_CROSSED = 8;
    private static final int DEAREST = 9;
    /** From this "what" on the answers of a list are told, one by one. */
    private static final int LISTED = 10;

    private final Ledger ledger = new Ledger();
    private final Table table = new Table();
    private final Lattice[] lattices = {new Lattice(), new Lattice()};
    private final Exploration exploration = new Exploration();
    private final Seriation seriation = new Seriation();
    private final CrossSearch crossSearch = new CrossSearch();
    private final KeyTree keyTree = new KeyTree();
    private final char[] tape = new char[MOST_BYTES];
    private int tapeLength = 0;
    private final ScaleReader reader = new ScaleReader();
    private final int[] before = new int[2 * SLOTS];
    private final int[] after = new int[2 * SLOTS];

    public MarkCabinet() {
    }

    public int find() {
        return table.addFind();
    }

    public boolean tell(int keeper, int f, int measure, int v, int day) {
        if (keeper < 0 || keeper >= BOTH || !table.hasFind(f) || !isMeasure(measure)) {
            return false;
        }
        if (v < NONE || v > GREATEST || !isDay(day) || !ledger.takes(day)) {
            return false;
        }
        int slot = keeper * SLOTS + f * MEASURES + measure;
        ledger.add(slot, v, day);
        table.hear(slot, f, v, day);
        return true;
    }

    public boolean view(int keeper, int day) {
        if (!isViewer(keeper) || !isDay(day)) {
            return false;
        }
        table.turn(keeper, day, ledger);
        return true;
    }

    public int value(int f, int measure) {
        if (!table.hasFind(f) || !isMeasure(measure)) {
            return NONE;
        }
        return known(table.known, table.keeper, f * MEASURES + measure);
    }

    public int feed(int a, int b, int c, int d, int e) {
        if (tapeLength + FED_BYTES > MOST_BYTES) {
            return NONE;
        }
        feedFour(a);
        feedFour(b);
        feedFour(c);
        feedFour(d);
        feedFour(e);
        return tapeLength;
    }

    public boolean end(int n) {
        if (n < 0 || n > tapeLength) {
            return false;
        }
        tapeLength = n;
        return true;
    }

    public int scales() {
        boolean good = reader.readText(tape, tapeLength);
        tapeLength = 0;
        if (!good) {
            return NONE;
        }
        table.cutBy(reader.exchange(table.code));
        return table.markCount();
    }

    public int fault(int what) {
        if (what == 0) {
            return reader.faultKind;
        }
        return what == 1 ? reader.faultPlace : NONE;
    }

    public int mark(int f, int i) {
        if (!table.hasFind(f) || !table.hasMark(i)) {
            return NONE;
        }
        table.freshen();
        return table.truthOf(f, i);
    }

    public int look(int what) {
        switch (what) {
            case 0:
                return table.finds;
            case 1:
                return table.markCount();
            case 2:
                return ledger.count;
            case 3:
                return table.keeper;
            case 4:
                return table.day;
            case 5:
                return exploration.begun ? exploration.exampleCount : NONE;
            case 6:
                return exploration.begun ? exploration.acceptedCount : NONE;
            default:
                return NONE - 1;
        }
    }

    public int row(int f, int mode) {
        if (!table.hasFind(f) || !isMode(mode)) {
            return NONE;
        }
        table.freshen();
        return table.rowOf(f, mode);
    }

    public int have(int marks, int mode) {
        if (!isMode(mode) || !table.hasMarks(marks)) {
            return NONE;
        }
        table.freshen();
        return table.having(marks, mode);
    }

    public int close(int marks, int mode) {
        if (!isMode(mode) || !table.hasMarks(marks)) {
            return NONE;
        }
        table.freshen();
        return table.closureOf(marks, mode);
    }

    public int concepts(int mode) {
        return isMode(mode) ? closedSets(mode).closedCount : NONE;
    }

    public int concept(int mode, int i) {
        return isMode(mode) ? closedSets(mode).closedSet(i) : NONE;
    }

    public int number(int mode, int marks) {
        return isMode(mode) && table.hasMarks(marks) ? closedSets(mode).closedNumber(marks) : NONE;
    }

    public int rules(int mode) {
        return isMode(mode) ? ruleBase(mode).premiseCount : NONE;
    }

    public int rule(int mode, int i, int what) {
        if (!isMode(mode) || what < 0 || what > 1) {
            return NONE;
        }
        Lattice lattice = ruleBase(mode);
        return what == 0 ? lattice.premiseSet(i) : lattice.conclusionSet(i);
    }

    public int follow(int mode, int marks, int what) {
        if (!isMode(mode) || !table.hasMarks(marks)) {
            return NONE;
        }
        Lattice lattice = ruleBase(mode);
        lattice.walkFrom(marks);
        if (what == 0) {
            return lattice.reachedSet();
        }
        return what == 1 ? lattice.stepCount : lattice.stepRule(what - LISTED, what >= LISTED);
    }

    public int against(int mode, int premise, int conclusion) {
        if (!isMode(mode) || !table.hasMarks(premise) || !table.hasMarks(conclusion)) {
            return NONE;
        }
        table.freshen();
        return table.having(premise, mode) & ~table.having(conclusion, mode);
    }

    public int explore(int mode) {
        if (!isMode(mode)) {
            return NONE;
        }
        table.freshen();
        exploration.begin(table, mode);
        return exploration.exampleCount;
    }

    public int question(int what) {
        if (what < 0 || what > 1 || !exploration.seek()) {
            return NONE;
        }
        return what == 0 ? exploration.askedPremise() : exploration.askedConclusion();
    }

    public int yes() {
        return exploration.accept() ? exploration.acceptedCount : NONE;
    }

    public int no(int marks) {
        return exploration.refute(marks) ? exploration.exampleCount : NONE;
    }

    public int accepted(int i, int what) {
        return exploration.acceptedSet(i, what);
    }

    public long rows(int mode, int finds, int marks) {
        if (!isMode(mode) || !table.hasFinds(finds) || !table.hasMarks(marks)) {
            return NONE;
        }
        table.freshen();
        seriation.prepare(table, mode, finds, marks);
        return seriation.total();
    }

    public int place(int mode, int finds, int marks, long k, int i) {
        if (!isMode(mode) || !table.hasFinds(finds) || !table.hasMarks(marks)) {
            return NONE;
        }
        table.freshen();
        seriation.prepare(table, mode, finds, marks);
        return seriation.findAt(k, i);
    }

    public int crosses(int mode, int finds, int marks, int what) {
        if (!isMode(mode) || !table.hasFinds(finds) || !table.hasMarks(marks)) {
            return NONE;
        }
        if (Integer.bitCount(finds) > MOST_CROSSED) {
            return NONE;
        }
        table.freshen();
        crossSearch.prepare(table, mode, finds, marks);
        return what == 0 ? crossSearch.least : crossSearch.bestAt(what - LISTED, what >= LISTED);
    }

    public boolean cost(int i, int c) {
        if (i < 0 || i >= MOST_MARKS || c < 1 || c > DEAREST) {
            return false;
        }
        keyTree.price(i, c);
        return true;
    }

    public int key(int finds, int what) {
        if (finds == 0 || !table.hasFinds(finds)) {
            return NONE;
        }
        table.freshen();
        keyTree.prepare(table);
        switch (what) {
            case 0:
                return keyTree.worstOf(finds);
            case 1:
                return keyTree.askedAt(finds);
            case 2:
                return keyTree.leafCount(finds);
            default:
                return NONE;
        }
    }

    public int path(int finds, int f, int what) {
        if (!table.hasFinds(finds) || !table.hasFind(f) || (finds & 1 << f) == 0) {
            return NONE;
        }
        table.freshen();
        keyTree.prepare(table);
        keyTree.go(finds, f);
        switch (what) {
            case 0:
                return keyTree.askedCount;
            case 1:
                return keyTree.spent;
            case 2:
                return keyTree.left;
            default:
                return keyTree.askedMark(what - LISTED, what >= LISTED);
        }
    }

    public int quarrel(int day, int by, int what) {
        if (!isDay(day) || by < 0 || by > GREATEST) {
            return NONE;
        }
        ledger.knownBy(day, before);
        int seen = 0;
        for (int s = 0; s < table.finds * MEASURES; s++) {
            int one = before[s];
            int other = before[SLOTS + s];
            if (one != NONE && other != NONE && Math.abs(one - other) > by) {
                if (what == LISTED + seen) {
                    return s;
                }
                seen++;
            }
        }
        return what == 0 ? seen : NONE;
    }

    public int changed(int keeper, int from, int to, int what) {
        if (!isViewer(keeper) || !isDay(from) || !isDay(to)) {
            return NONE;
        }
        ledger.knownBy(from, before);
        ledger.knownBy(to, after);
        int seen = 0;
        for (int f = 0; f < table.finds; f++) {
            int marks = table.differing(before, after, keeper, f);
            for (int i = 0; i < table.markCount(); i++) {
                if ((marks & 1 << i) != 0) {
                    if (what == LISTED + seen) {
                        return f * MOST_MARKS + i;
                    }
                    seen++;
                }
            }
        }
        return what == 0 ? seen : NONE;
    }

    private void feedFour(int n) {
        for (int shift = 24; shift >= 0 && tapeLength < MOST_BYTES; shift -= 8) {
            tape[tapeLength] = (char) (n >>> shift & 255);
            tapeLength++;
        }
    }

    private Lattice closedSets(int mode) {
        table.freshen();
        Lattice lattice = lattices[mode];
        lattice.freshenClosures(table, mode);
        return lattice;
    }

    private Lattice ruleBase(int mode) {
        table.freshen();
        Lattice lattice = lattices[mode];
        lattice.freshenClosures(table, mode);
        lattice.freshenPremises();
        return lattice;
    }

    private static boolean isMeasure(int measure) {
        return measure >= 0 && measure < MEASURES;
    }

    private static boolean isDay(int day) {
        return day >= 0 && day <= LAST_DAY;
    }

    private static boolean isViewer(int keeper) {
        return keeper >= 0 && keeper <= BOTH;
    }

    private static boolean isMode(int mode) {
        return mode == 0 || mode == 1;
    }

    /** What a viewer knows at a slot (find and measure) of the known values of both keepers. */
    private static int known(int[] values, int keeper, int slot) {
        int one = values[slot];
        int other = values[SLOTS + slot];
        if (keeper == 0) {
            return one;
        }
        if (keeper == 1 || one == NONE) {
            return other;
        }
        return other == NONE || other == one ? one : NONE;
    }

    /** A set with its marks backwards: as a number it then is its place in THE ORDER of all sets. */
    private static int backwards(int set, int marks) {
        int turned = 0;
        for (int i = 0; i < marks; i++) {
            turned = turned << 1 | set >> i & 1;
        }
        return turned;
    }

    /** The finds of a set into a list: how many. */
    private static int spread(int set, int[] list) {
        int count = 0;
        for (int f = 0; f < MOST_FINDS && count < list.length; f++) {
            if ((set & 1 << f) != 0) {
                list[count] = f;
                count++;
            }
        }
        return count;
    }

    /** All tellings, in the order in which they came (so by days, too). */
    private static final class Ledger {
        private final int[] slots = new int[MOST_TELLINGS];
        private final int[] values = new int[MOST_TELLINGS];
        private final int[] days = new int[MOST_TELLINGS];
        private int count = 0;

        boolean takes(int day) {
            return count < MOST_TELLINGS && (count == 0 || day >= days[count - 1]);
        }

        void add(int slot, int v, int day) {
            if (count >= MOST_TELLINGS) {
                return;
            }
            slots[count] = slot;
            values[count] = v;
            days[count] = day;
            count++;
        }

        void knownBy(int day, int[] known) {
            Arrays.fill(known, NONE);
            for (int t = 0; t < count && days[t] <= day; t++) {
                known[slots[t]] = values[t];
            }
        }
    }

    /** Scales as they are reckoned: for each mark a run of codes, operands ahead of what joins them. */
    private static final class ScaleCode {
        private static final int KIND_BITS = 5;
        private static final int MOST_STACKED = 40;

        private final int[] codes = new int[MOST_BYTES];
        private int length = 0;
        private final int[] ends = new int[MOST_MARKS];
        private int marks = 0;
        private final int[] stack = new int[MOST_STACKED];
        private int height = 0;
        private boolean missing = false;

        void clear() {
            length = 0;
            marks = 0;
        }

        void put(int kind, int amount) {
            if (length < MOST_BYTES) {
                codes[length] = amount << KIND_BITS | kind;
                length++;
            }
        }

        void endMark() {
            if (marks < MOST_MARKS) {
                ends[marks] = length;
                marks++;
            }
        }

        /** The mark asked of a find with these six measures: 1, 0, or 2. */
        int truth(int i, int[] measures) {
            height = 0;
            missing = false;
            int from = i == 0 ? 0 : ends[i - 1];
            for (int c = from; c < ends[i]; c++) {
                reckon(codes[c] & (1 << KIND_BITS) - 1, codes[c] >> KIND_BITS, measures);
            }
            return pop();
        }

        private void reckon(int kind, int amount, int[] measures) {
            switch (kind) {
                case Tokens.NUMBER:
                    push(amount);
                    break;
                case Tokens.MEASURE:
                    missing = missing || measures[amount] == NONE;
                    push(measures[amount]);
                    break;
                case Tokens.KNOWN:
                    push(measures[amount] == NONE ? 0 : 1);
                    break;
                case Tokens.NOT:
                    push(notOf(pop()));
                    break;
                case Tokens.OVER:
                    push(amount == 0 ? 0 : pop() / amount);
                    break;
                default:
                    int right = pop();
                    int left = pop();
                    push(missing && isComparison(kind) ? 2 : joined(kind, left, right));
                    missing = missing && !isComparison(kind);
                    break;
            }
        }

        /** Comparisons never stand in one another, so what is missing at one was missing in it. */
        private static boolean isComparison(int kind) {
            return kind == Tokens.LESS || kind == Tokens.EQUAL || kind == Tokens.MORE;
        }

        private static int joined(int kind, int left, int right) {
            switch (kind) {
                case Tokens.LESS:
                    return left < right ? 1 : 0;
                case Tokens.EQUAL:
                    return left == right ? 1 : 0;
                case Tokens.MORE:
                    return left > right ? 1 : 0;
                case Tokens.PLUS:
                    return left + right;
                case Tokens.MINUS:
                    return left - right;
                case Tokens.TIMES:
                    return left * right;
                case Tokens.AND:
                    return left == 0 || right == 0 ? 0 : Math.max(left, right);
                default:
                    return left == 1 || right == 1 ? 1 : Math.max(left, right);
            }
        }

        private static int notOf(int truth) {
            return truth == 2 ? 2 : 1 - truth;
        }

        private void push(int n) {
            if (height < MOST_STACKED) {
                stack[height] = n;
                height++;
            }
        }

        private int pop() {
            if (height <= 0) {
                return 0;
            }
            height--;
            return stack[height];
        }
    }

    /** A text's tokens, one behind another, each with its kind, its place and what it amounts to. */
    private static final class Tokens {
        private static final int END = 0;
        private static final int BAD = 1;
        private static final int SEMICOLON = 2;
        private static final int PLUS = 3;
        private static final int MINUS = 4;
        private static final int TIMES = 5;
        private static final int OVER = 6;
        private static final int OPEN = 7;
        private static final int SHUT = 8;
        private static final int LESS = 9;
        private static final int EQUAL = 10;
        private static final int MORE = 11;
        private static final int OR = 12;
        private static final int AND = 13;
        private static final int NOT = 14;
        private static final int KNOWN = 15;
        private static final int MEASURE = 16;
        private static final int NUMBER = 17;
        private static final int MOST_DIGITS = 4;

        private final int[] kinds = new int[MOST_BYTES + 1];
        private final int[] places = new int[MOST_BYTES + 1];
        private final int[] amounts = new int[MOST_BYTES + 1];
        private int last = 0;
        private int now = 0;
        private int kind = END;
        private int place = 0;
        private int amount = 0;

        /** Cuts a text of at most MOST_BYTES signs; its end is the last token. */
        void cutText(char[] text, int length) {
            int at = 0;
            last = 0;
            for (int n = 0; n < MOST_BYTES && at < length; n++) {
                int next = at + 1;
                if (isLetter(text[at])) {
                    next = takeWord(text, at, length);
                } else if (isDigit(text[at])) {
                    next = takeNumber(text, at, length);
                } else if (text[at] != ' ' && text[at] != '\n') {
                    add(signOf(text[at]), at, 0);
                }
                at = next;
            }
            kinds[last] = END;
            places[last] = length;
            now = NONE;
            advance();
        }

        void advance() {
            if (now < last) {
                now++;
                kind = kinds[now];
                place = places[now];
                amount = amounts[now];
            }
        }

        private void add(int newKind, int newPlace, int newAmount) {
            if (last < MOST_BYTES) {
                kinds[last] = newKind;
                places[last] = newPlace;
                amounts[last] = newAmount;
                last++;
            }
        }

        private int takeWord(char[] text, int from, int length) {
            int to = from;
            while (to < length && isLetter(text[to])) {
                to++;
            }
            if (to - from == 1 && text[from] >= 'a' && text[from] < 'a' + MEASURES) {
                add(MEASURE, from, text[from] - 'a');
            } else if (spells("or", text, from, to)) {
                add(OR, from, 0);
            } else if (spells("and", text, from, to)) {
                add(AND, from, 0);
            } else if (spells("not", text, from, to)) {
                add(NOT, from, 0);
            } else if (spells("known", text, from, to)) {
                add(KNOWN, from, 0);
            } else {
                add(BAD, from, 0);
            }
            return to;
        }

        private int takeNumber(char[] text, int from, int length) {
            int n = 0;
            int to = from;
            while (to < length && isDigit(text[to])) {
                if (to - from < MOST_DIGITS) {
                    n = n * 10 + text[to] - '0';
                }
                to++;
            }
            add(to - from > MOST_DIGITS ? BAD : NUMBER, from, n);
            return to;
        }

        private static boolean spells(String word, char[] text, int from, int to) {
            if (to - from != word.length()) {
                return false;
            }
            for (int i = 0; i < word.length(); i++) {
                if (text[from + i] != word.charAt(i)) {
                    return false;
                }
            }
            return true;
        }

        private static boolean isLetter(char c) {
            return c >= 'a' && c <= 'z' || c >= 'A' && c <= 'Z';
        }

        private static boolean isDigit(char c) {
            return c >= '0' && c <= '9';
        }

        private static int signOf(char c) {
            switch (c) {
                case ';':
                    return SEMICOLON;
                case '+':
                    return PLUS;
                case '-':
                    return MINUS;
                case '*':
                    return TIMES;
                case '/':
                    return OVER;
                case '(':
                    return OPEN;
                case ')':
                    return SHUT;
                case '<':
                    return LESS;
                case '=':
                    return EQUAL;
                case '>':
                    return MORE;
                default:
                    return BAD;
            }
        }
    }

    /** Reads a text into codes up to the first fault: from left to right, so that it is the first by its place. */
    private static final class ScaleReader {
        private static final int MISPLACED = 1;
        private static final int PART_BY_ZERO = 2;
        private static final int TOO_MUCH = 3;

        private final Tokens tokens = new Tokens();
        private ScaleCode code = new ScaleCode();
        private int faultKind = 0;
        private int faultPlace = NONE;

        boolean readText(char[] text, int length) {
            code.clear();
            faultKind = 0;
            faultPlace = NONE;
            tokens.cutText(text, length);
            for (int n = 0; n <= MOST_MARKS && tokens.kind != Tokens.END; n++) {
                if (n == MOST_MARKS) {
                    return refuse(TOO_MUCH);
                }
                if (!readClaims(0)) {
                    return false;
                }
                if (tokens.kind != Tokens.SEMICOLON) {
                    return refuse(MISPLACED);
                }
                code.endMark();
                tokens.advance();
            }
            return true;
        }

        /** Hands out the codes that were read, and takes old ones to write over them. */
        ScaleCode exchange(ScaleCode old) {
            ScaleCode read = code;
            code = old;
            return read;
        }

        /** Claims joined by or and and; an or waits until the ands behind it are read. */
        private boolean readClaims(int open) {
            if (!readClaim(open)) {
                return false;
            }
            boolean waiting = false;
            for (int n = 0; n < MOST_BYTES && (tokens.kind == Tokens.OR || tokens.kind == Tokens.AND); n++) {
                boolean or = tokens.kind == Tokens.OR;
                if (or && waiting) {
                    code.put(Tokens.OR, 0);
                }
                waiting = waiting || or;
                tokens.advance();
                if (!readClaim(open)) {
                    return false;
                }
                if (!or) {
                    code.put(Tokens.AND, 0);
                }
            }
            if (waiting) {
                code.put(Tokens.OR, 0);
            }
            return true;
        }

        private boolean readClaim(int open) {
            int kind = tokens.kind;
            if (kind == Tokens.KNOWN) {
                return readKnown();
            }
            if (kind != Tokens.NOT && kind != Tokens.OPEN) {
                return readComparison();
            }
            if (open >= MOST_OPEN) {
                return refuse(TOO_MUCH);
            }
            tokens.advance();
            return kind == Tokens.NOT ? readNegated(open + 1) : readBracketed(open + 1);
        }

        private boolean readNegated(int open) {
            if (!readClaim(open)) {
                return false;
            }
            code.put(Tokens.NOT, 0);
            return true;
        }

        private boolean readBracketed(int open) {
            if (!readClaims(open)) {
                return false;
            }
            if (tokens.kind != Tokens.SHUT) {
                return refuse(MISPLACED);
            }
            tokens.advance();
            return true;
        }

        private boolean readKnown() {
            tokens.advance();
            if (tokens.kind != Tokens.MEASURE) {
                return refuse(MISPLACED);
            }
            code.put(Tokens.KNOWN, tokens.amount);
            tokens.advance();
            return true;
        }

        private boolean readComparison() {
            if (!readSum()) {
                return false;
            }
            int sign = tokens.kind;
            if (!ScaleCode.isComparison(sign)) {
                return refuse(MISPLACED);
            }
            tokens.advance();
            if (!readSum()) {
                return false;
            }
            code.put(sign, 0);
            return true;
        }

        /** Units joined by signs; a plus or minus waits until what binds closer behind it is read. */
        private boolean readSum() {
            if (!readUnit()) {
                return false;
            }
            int waiting = NONE;
            for (int n = 0; n < MOST_BYTES && isArithmetic(tokens.kind); n++) {
                int sign = tokens.kind;
                boolean loose = sign == Tokens.PLUS || sign == Tokens.MINUS;
                if (loose && waiting != NONE) {
                    code.put(waiting, 0);
                }
                waiting = loose ? sign : waiting;
                tokens.advance();
                if (!(sign == Tokens.OVER ? readDivisor() : readUnit())) {
                    return false;
                }
                if (sign == Tokens.TIMES) {
                    code.put(sign, 0);
                }
            }
            if (waiting != NONE) {
                code.put(waiting, 0);
            }
            return true;
        }

        private static boolean isArithmetic(int kind) {
            return kind == Tokens.PLUS || kind == Tokens.MINUS || kind == Tokens.TIMES || kind == Tokens.OVER;
        }

        private boolean readDivisor() {
            if (tokens.kind != Tokens.NUMBER) {
                return refuse(MISPLACED);
            }
            if (tokens.amount == 0) {
                return refuse(PART_BY_ZERO);
            }
            code.put(Tokens.OVER, tokens.amount);
            tokens.advance();
            return true;
        }

        private boolean readUnit() {
            if (tokens.kind != Tokens.NUMBER && tokens.kind != Tokens.MEASURE) {
                return refuse(MISPLACED);
            }
            code.put(tokens.kind, tokens.amount);
            tokens.advance();
            return true;
        }

        private boolean refuse(int fault) {
            faultKind = fault;
            faultPlace = tokens.place;
            return false;
        }
    }

    /** Finds against marks in the view, cut anew only where something has changed. */
    private static final class Table {
        private int finds = 0;
        private int keeper = 0;
        private int day = LAST_DAY;
        private final int[] known = new int[2 * SLOTS];
        private ScaleCode code = new ScaleCode();
        private final int[] sure = new int[MOST_FINDS];
        private final int[] open = new int[MOST_FINDS];
        private final boolean[] fresh = new boolean[MOST_FINDS];
        private final int[] measures = new int[MEASURES];
        private final int[] others = new int[MEASURES];
        /** Grows with each change, so that what was reckoned from the table knows that it is old. */
        private int changes = 0;

        Table() {
            Arrays.fill(known, NONE);
        }

        boolean hasFind(int f) {
            return f >= 0 && f < finds;
        }

        boolean hasFinds(int set) {
            return set >= 0 && set >> finds == 0;
        }

        boolean hasMarks(int set) {
            return set >= 0 && set >> code.marks == 0;
        }

        boolean hasMark(int i) {
            return i >= 0 && i < code.marks;
        }

        int markCount() {
            return code.marks;
        }

        int addFind() {
            if (finds >= MOST_FINDS) {
                return NONE;
            }
            finds++;
            changes++;
            return finds - 1;
        }

        void hear(int slot, int f, int v, int toldOn) {
            if (toldOn <= day) {
                known[slot] = v;
                fresh[f] = false;
                changes++;
            }
        }

        void turn(int newKeeper, int newDay, Ledger ledger) {
            keeper = newKeeper;
            day = newDay;
            ledger.knownBy(day, known);
            forget();
        }

        void cutBy(ScaleCode newCode) {
            code = newCode;
            forget();
        }

        private void forget() {
            for (int f = 0; f < finds; f++) {
                fresh[f] = false;
            }
            changes++;
        }

        /** Cuts the marks of all finds that are not fresh: whoever reads rows calls this ahead. */
        void freshen() {
            for (int f = 0; f < finds; f++) {
                if (!fresh[f]) {
                    cut(f);
                }
            }
        }

        int truthOf(int f, int i) {
            return sure[f] >> i & 1 | (open[f] >> i & 1) << 1;
        }

        int rowOf(int f, int mode) {
            return mode == 0 ? sure[f] : sure[f] | open[f];
        }

        int openOf(int f) {
            return open[f];
        }

        int having(int marks, int mode) {
            int set = 0;
            for (int f = 0; f < finds; f++) {
                if ((rowOf(f, mode) & marks) == marks) {
                    set |= 1 << f;
                }
            }
            return set;
        }

        int closureOf(int marks, int mode) {
            int closure = (1 << code.marks) - 1;
            for (int f = 0; f < finds; f++) {
                int r = rowOf(f, mode);
                if ((r & marks) == marks) {
                    closure &= r;
                }
            }
            return closure;
        }

        /** The marks of a find that are not the same by two lists of known values. */
        int differing(int[] then, int[] now, int viewer, int f) {
            gather(then, viewer, f, measures);
            gather(now, viewer, f, others);
            boolean alike = true;
            for (int m = 0; m < MEASURES; m++) {
                alike = alike && measures[m] == others[m];
            }
            int set = 0;
            for (int i = 0; i < code.marks && !alike; i++) {
                if (code.truth(i, measures) != code.truth(i, others)) {
                    set |= 1 << i;
                }
            }
            return set;
        }

        private void cut(int f) {
            gather(known, keeper, f, measures);
            sure[f] = 0;
            open[f] = 0;
            for (int i = 0; i < code.marks; i++) {
                int truth = code.truth(i, measures);
                sure[f] |= truth == 1 ? 1 << i : 0;
                open[f] |= truth == 2 ? 1 << i : 0;
            }
            fresh[f] = true;
        }

        private static void gather(int[] values, int viewer, int f, int[] into) {
            for (int m = 0; m < MEASURES; m++) {
                into[m] = known(values, viewer, f * MEASURES + m);
            }
        }
    }

    /** Closed sets and rules of one mode; all sets in it are backwards, so that THE ORDER is that of numbers. */
    private static final class Lattice {
        private int marks = 0;
        private int size = 1;
        private int[] closures = new int[0];
        private int[] closed = new int[0];
        private int closedCount = 0;
        private int closuresAt = NONE;
        private int[] gathered = new int[0];
        private int[] premises = new int[0];
        private int premiseCount = 0;
        private int premisesAt = NONE;
        private final int[] steps = new int[MOST_MARKS];
        private int stepCount = 0;
        private int reached = 0;

        void freshenClosures(Table table, int mode) {
            if (closuresAt == table.changes) {
                return;
            }
            closuresAt = table.changes;
            marks = table.markCount();
            size = 1 << marks;
            if (closures.length < size) {
                closures = new int[size];
                closed = new int[size];
            }
            for (int s = 0; s < size; s++) {
                closures[s] = size - 1;
            }
            for (int f = 0; f < table.finds; f++) {
                int r = backwards(table.rowOf(f, mode), marks);
                closures[r] = r;
            }
            meetAbove();
            listClosed();
        }

        /** Each set gets what all rows above it have in common: mark by mark, from the sets that have it. */
        private void meetAbove() {
            for (int i = 0; i < marks; i++) {
                for (int s = 0; s < size; s++) {
                    if ((s >> i & 1) == 0) {
                        closures[s] &= closures[s | 1 << i];
                    }
                }
            }
        }

        private void listClosed() {
            closedCount = 0;
            for (int s = 0; s < size; s++) {
                if (closures[s] == s) {
                    closed[closedCount] = s;
                    closedCount++;
                }
            }
        }

        void freshenPremises() {
            if (premisesAt == closuresAt) {
                return;
            }
            premisesAt = closuresAt;
            premiseCount = 0;
            if (premises.length < size) {
                premises = new int[size];
                gathered = new int[size];
            }
            for (int s = 0; s < size; s++) {
                int all = gatheredBelow(s);
                if (closures[s] != s && (all & ~s) == 0) {
                    premises[premiseCount] = s;
                    premiseCount++;
                    all |= closures[s];
                }
                gathered[s] = all;
            }
        }

        /** The closures of all premises that are in a set and are not itself, joined. */
        private int gatheredBelow(int s) {
            int all = 0;
            for (int i = 0; i < marks; i++) {
                if ((s >> i & 1) != 0) {
                    all |= gathered[s ^ 1 << i];
                }
            }
            return all;
        }

        int closedSet(int i) {
            return i >= 0 && i < closedCount ? backwards(closed[i], marks) : NONE;
        }

        int closedNumber(int set) {
            int s = backwards(set, marks);
            for (int i = 0; i < closedCount && closed[i] <= s; i++) {
                if (closed[i] == s) {
                    return i;
                }
            }
            return NONE;
        }

        int premiseSet(int i) {
            return i >= 0 && i < premiseCount ? backwards(premises[i], marks) : NONE;
        }

        int conclusionSet(int i) {
            return i >= 0 && i < premiseCount ? backwards(closures[premises[i]], marks) : NONE;
        }

        void walkFrom(int set) {
            reached = backwards(set, marks);
            stepCount = 0;
            int next = firstToAdd();
            while (next != NONE && stepCount < MOST_MARKS) {
                reached |= closures[premises[next]];
                steps[stepCount] = next;
                stepCount++;
                next = firstToAdd();
            }
        }

        private int firstToAdd() {
            for (int i = 0; i < premiseCount; i++) {
                int p = premises[i];
                if ((p & ~reached) == 0 && (closures[p] & ~reached) != 0) {
                    return i;
                }
            }
            return NONE;
        }

        int reachedSet() {
            return backwards(reached, marks);
        }

        int stepRule(int k, boolean listed) {
            return listed && k >= 0 && k < stepCount ? steps[k] : NONE;
        }
    }

    /** A table explored by questions; all sets in it are backwards, as in a lattice. */
    private static final class Exploration {
        private boolean begun = false;
        private int marks = 0;
        private int size = 1;
        private final int[] examples = new int[MOST_EXAMPLES];
        private int exampleCount = 0;
        private final int[] premises = new int[MOST_ACCEPTED];
        private final int[] conclusions = new int[MOST_ACCEPTED];
        private int acceptedCount = 0;
        /** No answer can make a set ahead of the latest question one again, so the search only goes on. */
        private int asked = 0;
        private int askedClosure = 0;

        void begin(Table table, int mode) {
            begun = true;
            marks = table.markCount();
            size = 1 << marks;
            exampleCount = 0;
            for (int f = 0; f < table.finds && exampleCount < MOST_EXAMPLES; f++) {
                examples[exampleCount] = backwards(table.rowOf(f, mode), marks);
                exampleCount++;
            }
            acceptedCount = 0;
            asked = 0;
        }

        boolean seek() {
            if (!begun) {
                return false;
            }
            for (; asked < size; asked++) {
                askedClosure = closureOf(asked);
                if (askedClosure != asked && keeps(asked)) {
                    return true;
                }
            }
            return false;
        }

        int askedPremise() {
            return backwards(asked, marks);
        }

        int askedConclusion() {
            return backwards(askedClosure, marks);
        }

        boolean accept() {
            if (acceptedCount >= MOST_ACCEPTED || !seek()) {
                return false;
            }
            premises[acceptedCount] = asked;
            conclusions[acceptedCount] = askedClosure;
            acceptedCount++;
            return true;
        }

        boolean refute(int set) {
            if (exampleCount >= MOST_EXAMPLES || set < 0 || set >= size || !seek()) {
                return false;
            }
            int s = backwards(set, marks);
            if ((asked & ~s) != 0 || (askedClosure & ~s) == 0 || !keeps(s)) {
                return false;
            }
            examples[exampleCount] = s;
            exampleCount++;
            return true;
        }

        int acceptedSet(int i, int what) {
            if (!begun || i < 0 || i >= acceptedCount || what < 0 || what > 1) {
                return NONE;
            }
            return backwards(what == 0 ? premises[i] : conclusions[i], marks);
        }

        private int closureOf(int s) {
            int closure = size - 1;
            for (int e = 0; e < exampleCount && closure != s; e++) {
                if ((s & ~examples[e]) == 0) {
                    closure &= examples[e];
                }
            }
            return closure;
        }

        private boolean keeps(int s) {
            for (int i = 0; i < acceptedCount; i++) {
                if ((premises[i] & ~s) == 0 && (conclusions[i] & ~s) != 0) {
                    return false;
                }
            }
            return true;
        }
    }

    /**
     * All rows of a set of finds. How a row can go on hangs only on which finds stand already: a mark that
     * is begun and not ended must go on. Finds with the same marks are mates and count as one kind.
     */
    private static final class Seriation {
        /** 16 finds have less than 2 to the 45 orders; above that a count bears the round it belongs to. */
        private static final int COUNT_BITS = 45;
        private static final long COUNT_MASK = (1L << COUNT_BITS) - 1;

        private int changesThen = NONE;
        private int modeThen = 0;
        private int findsThen = 0;
        private int marksThen = 0;
        private int count = 0;
        private final int[] finds = new int[MOST_FINDS];
        private final int[] blocks = new int[MOST_MARKS];
        private int blockCount = 0;
        private final int[] mates = new int[MOST_FINDS];
        private long[] counts = new long[0];
        private long round = 0;

        void prepare(Table table, int mode, int set, int marks) {
            if (changesThen == table.changes && modeThen == mode && findsThen == set && marksThen == marks) {
                return;
            }
            changesThen = table.changes;
            modeThen = mode;
            findsThen = set;
            marksThen = marks;
            count = spread(set, finds);
            listBlocks(table, mode, marks);
            listMates();
            if (counts.length < 1 << count) {
                counts = new long[1 << count];
            }
            round = round + 1 & (1L << 64 - COUNT_BITS) - 1;
        }

        /** A mark that fewer than two or all of the finds have binds no row. */
        private void listBlocks(Table table, int mode, int marks) {
            blockCount = 0;
            for (int i = 0; i < MOST_MARKS; i++) {
                int block = (marks & 1 << i) == 0 ? 0 : havingAt(table, mode, i);
                int held = Integer.bitCount(block);
                if (held > 1 && held < count && !isBlock(block)) {
                    blocks[blockCount] = block;
                    blockCount++;
                }
            }
        }

        private int havingAt(Table table, int mode, int i) {
            int set = 0;
            for (int p = 0; p < count; p++) {
                set |= (table.rowOf(finds[p], mode) >> i & 1) << p;
            }
            return set;
        }

        private boolean isBlock(int set) {
            for (int b = 0; b < blockCount; b++) {
                if (blocks[b] == set) {
                    return true;
                }
            }
            return false;
        }

        private void listMates() {
            for (int p = 0; p < count; p++) {
                int set = all();
                for (int b = 0; b < blockCount; b++) {
                    set &= (blocks[b] >> p & 1) != 0 ? blocks[b] : ~blocks[b];
                }
                mates[p] = set;
            }
        }

        private int all() {
            return (1 << count) - 1;
        }

        long total() {
            return countFrom(0, 0);
        }

        /**
         * The find at a place of row k: each find that could stand there has so many rows behind it. Those are
         * counted for the set that is like the used one, but has the least of all mates.
         */
        int findAt(long k, int i) {
            if (i < 0 || i >= count || k < 0 || k >= total()) {
                return NONE;
            }
            long left = k;
            int used = 0;
            int like = 0;
            int chosen = NONE;
            for (int at = 0; at <= i; at++) {
                int open = openBehind(used);
                chosen = NONE;
                for (int p = 0; p < count && chosen == NONE; p++) {
                    if ((open >> p & 1) == 0) {
                        continue;
                    }
                    int next = like | lowest(mates[p] & ~like);
                    long behind = countFrom(next, at + 1);
                    if (left < behind) {
                        chosen = p;
                        used |= 1 << p;
                        like = next;
                    } else {
                        left -= behind;
                    }
                }
            }
            return chosen == NONE ? NONE : finds[chosen];
        }

        /** The finds that can stand next, behind those that are used. */
        private int openBehind(int used) {
            int open = all() & ~used;
            for (int b = 0; b < blockCount; b++) {
                if ((blocks[b] & used) != 0 && (blocks[b] & ~used) != 0) {
                    open &= blocks[b];
                }
            }
            return open;
        }

        /** In how many ways a row can end; of mates the least ones are used. */
        private long countFrom(int used, int depth) {
            if (used == all() || depth >= count) {
                return used == all() ? 1 : 0;
            }
            if (counts[used] >>> COUNT_BITS == round) {
                return counts[used] & COUNT_MASK;
            }
            long ways = 0;
            int open = openBehind(used);
            for (int n = 0; n < MOST_FINDS && open != 0; n++) {
                int kin = kinOf(lowest(open)) & ~used;
                ways += Integer.bitCount(kin) * countFrom(used | lowest(open), depth + 1);
                open &= ~kin;
            }
            counts[used] = round << COUNT_BITS | ways;
            return ways;
        }

        private int kinOf(int bit) {
            for (int p = 0; p < count; p++) {
                if (bit == 1 << p) {
                    return mates[p];
                }
            }
            return bit;
        }

        private static int lowest(int set) {
            return set & -set;
        }
    }

    /** The first order with the fewest crosses outside the longest runs, by trying orders as words. */
    private static final class CrossSearch {
        private static final int LEVELS = MOST_CROSSED + 1;

        private int changesThen = NONE;
        private int modeThen = 0;
        private int findsThen = 0;
        private int marksThen = 0;
        private int count = 0;
        private final int[] finds = new int[MOST_CROSSED];
        private final int[] marksOf = new int[MOST_CROSSED];
        private final int[] lesserMates = new int[MOST_CROSSED];
        private final int[] held = new int[MOST_MARKS];
        private int asked = 0;
        private final int[] running = new int[LEVELS * MOST_MARKS];
        private final int[] longest = new int[LEVELS * MOST_MARKS];
        private final int[] toCome = new int[LEVELS * MOST_MARKS];
        private final int[] order = new int[MOST_CROSSED];
        private final int[] best = new int[MOST_CROSSED];
        private int least = 0;

        void prepare(Table table, int mode, int set, int marks) {
            if (changesThen == table.changes && modeThen == mode && findsThen == set && marksThen == marks) {
                return;
            }
            changesThen = table.changes;
            modeThen = mode;
            findsThen = set;
            marksThen = marks;
            count = spread(set, finds);
            for (int p = 0; p < count; p++) {
                marksOf[p] = table.rowOf(finds[p], mode) & marks;
            }
            listMates();
            listHeld();
            least = count * asked + 1;
            search(0, 0);
        }

        private void listMates() {
            for (int p = 0; p < count; p++) {
                lesserMates[p] = 0;
                for (int q = 0; q < p; q++) {
                    lesserMates[p] |= marksOf[q] == marksOf[p] ? 1 << q : 0;
                }
            }
        }

        /** Only marks that two finds or more, and not all of them, have can ever cost a cross. */
        private void listHeld() {
            asked = 0;
            for (int i = 0; i < MOST_MARKS; i++) {
                int having = 0;
                for (int p = 0; p < count; p++) {
                    having |= (marksOf[p] >> i & 1) << p;
                }
                int sum = Integer.bitCount(having);
                if (sum > 1 && sum < count) {
                    held[asked] = having;
                    running[asked] = 0;
                    longest[asked] = 0;
                    toCome[asked] = sum;
                    asked++;
                }
            }
        }

        /**
         * Mates stand in their own order in the first best row, and its first find is less than its last
         * one (backwards it costs the same): other rows need no look.
         */
        private void search(int depth, int used) {
            if (depth >= count) {
                keepOrder(depth);
                return;
            }
            for (int p = 0; p < count; p++) {
                if ((used >> p & 1) != 0 || (lesserMates[p] & ~used) != 0) {
                    continue;
                }
                order[depth] = p;
                int now = used | 1 << p;
                int rest = (1 << count) - 1 & ~now;
                if (rest != 0 && rest >> order[0] == 0) {
                    continue;
                }
                if (lay(depth, p) < least) {
                    search(depth + 1, now);
                }
            }
        }

        private void keepOrder(int depth) {
            int sum = bound(depth);
            if (sum < least) {
                least = sum;
                System.arraycopy(order, 0, best, 0, count);
            }
        }

        /** Lays a find behind the row: the least that the row can cost then. */
        private int lay(int depth, int p) {
            int from = depth * MOST_MARKS;
            int to = from + MOST_MARKS;
            for (int m = 0; m < asked; m++) {
                boolean has = (held[m] >> p & 1) != 0;
                running[to + m] = has ? running[from + m] + 1 : 0;
                longest[to + m] = Math.max(longest[from + m], running[to + m]);
                toCome[to + m] = has ? toCome[from + m] - 1 : toCome[from + m];
            }
            return bound(depth + 1);
        }

        private int bound(int depth) {
            int from = depth * MOST_MARKS;
            int sum = 0;
            for (int m = 0; m < asked; m++) {
                int hoped = Math.max(longest[from + m], running[from + m] + toCome[from + m]);
                sum += toCome[m] - hoped;
            }
            return sum;
        }

        int bestAt(int i, boolean listed) {
            return listed && i >= 0 && i < count ? finds[best[i]] : NONE;
        }
    }

    /** Keys with the least cost at the worst, for each set of finds reckoned once. */
    private static final class KeyTree {
        private static final int MARK_BITS = 4;
        private static final int ROUND_SHIFT = 12;

        private final int[] prices = new int[MOST_MARKS];
        private final int[] having = new int[MOST_MARKS];
        private final int[] doubtful = new int[MOST_MARKS];
        private int marks = 0;
        /** Of a set: the round that it belongs to, its least worst, and the mark to be asked (0: none) plus 1. */
        private int[] plans = new int[0];
        private int round = 0;
        private int changesThen = NONE;
        private final int[] askedMarks = new int[MOST_MARKS];
        private int askedCount = 0;
        private int spent = 0;
        private int left = 0;

        KeyTree() {
            Arrays.fill(prices, 1);
        }

        void price(int i, int c) {
            prices[i] = c;
            changesThen = NONE;
        }

        void prepare(Table table) {
            if (changesThen == table.changes) {
                return;
            }
            changesThen = table.changes;
            marks = table.markCount();
            for (int i = 0; i < marks; i++) {
                having[i] = 0;
                doubtful[i] = 0;
                for (int f = 0; f < table.finds; f++) {
                    having[i] |= (table.rowOf(f, 0) >> i & 1) << f;
                    doubtful[i] |= (table.openOf(f) >> i & 1) << f;
                }
            }
            if (plans.length < 1 << table.finds) {
                plans = new int[1 << table.finds];
            }
            round = round + 1 & (1 << 32 - ROUND_SHIFT) - 1;
        }

        int worstOf(int set) {
            return worst(set, 0);
        }

        int askedAt(int set) {
            worst(set, 0);
            return (plans[set] & (1 << MARK_BITS) - 1) - 1;
        }

        /** Each mark is asked once at most on a way, so no way is longer than there are marks. */
        private int worst(int set, int depth) {
            if (plans[set] >>> ROUND_SHIFT == round) {
                return (plans[set] & (1 << ROUND_SHIFT) - 1) >> MARK_BITS;
            }
            int least = 0;
            int chosen = 0;
            for (int i = 0; i < marks && depth <= MOST_MARKS; i++) {
                int with = set & having[i];
                if (with == 0 || with == set || (set & doubtful[i]) != 0) {
                    continue;
                }
                if (chosen != 0 && prices[i] >= least) {
                    continue;
                }
                int sum = prices[i] + Math.max(worst(with, depth + 1), worst(set & ~with, depth + 1));
                if (chosen == 0 || sum < least) {
                    least = sum;
                    chosen = i + 1;
                }
            }
            plans[set] = round << ROUND_SHIFT | least << MARK_BITS | chosen;
            return least;
        }

        int leafCount(int set) {
            return leaves(set, 0);
        }

        private int leaves(int set, int depth) {
            int i = askedAt(set);
            if (i == NONE || depth > MOST_MARKS) {
                return 1;
            }
            return leaves(set & having[i], depth + 1) + leaves(set & ~having[i], depth + 1);
        }

        void go(int set, int f) {
            askedCount = 0;
            spent = 0;
            left = set;
            int i = askedAt(left);
            while (i != NONE && askedCount < MOST_MARKS) {
                askedMarks[askedCount] = i;
                askedCount++;
                spent += prices[i];
                left &= (having[i] >> f & 1) != 0 ? having[i] : ~having[i];
                i = askedAt(left);
            }
        }

        int askedMark(int k, boolean listed) {
            return listed && k >= 0 && k < askedCount ? askedMarks[k] : NONE;
        }
    }
}
