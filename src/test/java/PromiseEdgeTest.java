import java.io.IOException;
import java.util.function.IntToLongFunction;

/** The document's promises, sentence by sentence: each edge on both sides, and each refusal does nothing. */
public final class PromiseEdgeTest extends Quoted {
    /** Numbers that are no mode, day, keeper, set or place of anything. */
    private static final int[] FAR = {LOW, LOW + 1, LOW + 9, LOW + 10, -65536, -1000, -2, -1, 65536, 1 << 20, HIGH - 1, HIGH};

    public static void main(String[] args) throws IOException {
        openPromises();
        newObjects();
        finds();
        tellings();
        views();
        values();
        fed();
        ended();
        scaled();
        faulty();
        marks();
        looks();
        rowsOfMarks();
        having();
        closures();
        closedCounts();
        closedSets();
        closedNumbers();
        ruleCounts();
        rulesOne();
        follows();
        againsts();
        explored();
        questions();
        yesAnswers();
        noAnswers();
        acceptedRules();
        rowCounts();
        places();
        crossed();
        costs();
        keys();
        paths();
        quarrels();
        changes();
        fiveHundredAndTwelve();
        finishQuoted();
    }

    /** Something of everything: two keepers, a view, costs, a fault, a rule accepted, a question open, a text on the tape. */
    private static MarkCabinet busy() {
        MarkCabinet x = table(3, 3, 6, 1, 4);
        x.tell(1, 0, 0, 2, 5);
        x.tell(1, 1, 1, 7, 9);
        x.view(2, 7);
        x.cost(1, 5);
        x.cost(2, 2);
        scale(x, "a/0>1;");
        x.explore(0);
        x.yes();
        feed(x, "b=0;a>0;", 0);
        return x;
    }

    private static MarkCabinet fullOfTellings() {
        MarkCabinet x = blank(1);
        for (int t = 0; t < 400; t++) {
            x.tell(t & 1, 0, t % 6, t, 9);
        }
        return x;
    }

    private static MarkCabinet fullOfFinds() {
        MarkCabinet x = blank(16);
        x.tell(0, 15, 0, 3, 9);
        scale(x, "a>2;");
        return x;
    }

    private static MarkCabinet taped(int bytes) {
        MarkCabinet x = blank(1);
        tape(x, "known b;" + times(" ", bytes - 8));
        return x;
    }

    private static MarkCabinet fullOfExamples() {
        MarkCabinet x = table(12, new int[16]);
        x.explore(0);
        for (int n = 16; n < 40; n++) {
            x.no(x.question(0));
        }
        return x;
    }

    private static MarkCabinet fullOfAccepted() {
        MarkCabinet x = table(12, single(12));
        x.explore(0);
        for (int n = 0; n < 60; n++) {
            x.yes();
        }
        return x;
    }

    private static long bit(boolean b) {
        return b ? 1 : 0;
    }

    /** What is NONE for every number that is far off. */
    private static void noneFarOff(String what, IntToLongFunction call) {
        for (int n : FAR) {
            due(what + " " + n, call.applyAsLong(n), NONE);
        }
    }

    /** Of a list: 2 to 9 and all below 0 are another what, and so is what is far behind its end. */
    private static void noneBetween(String what, int from, IntToLongFunction call) {
        for (int n = from; n < 10; n++) {
            due(what + " what " + n, call.applyAsLong(n), NONE);
        }
        noneFarOff(what + " what", call);
    }

    private static void newObjects() {
        promise(1, "No FINDS, no SCALES.");
        MarkCabinet x = new MarkCabinet();
        due("finds", x.look(0), 0);
        due("marks", x.look(1), 0);
        due("no find 0", x.value(0, 0), NONE);
        due("no row of it", x.row(0, 0), NONE);
        due("none has the empty set", x.have(0, 0), 0);
        due("there is no mark 0", x.have(1, 0), NONE);
        due("the empty set is closed", x.number(1, 0), 0);
        due("an empty row of no finds", x.rows(0, 0, 0), 1);
        due("no set with find 0", x.rows(0, 1, 0), NONE);
        due("no fault", x.fault(0), 0);
        due("no place", x.fault(1), NONE);
        due("the tape is empty", feed(x, "", 0), 20);
        x.find();
        due("what is done to one is not done to another", new MarkCabinet().look(0), 0);
    }

    private static void finds() {
        promise(2, "A FIND: its number; NONE if there are 16.");
        MarkCabinet x = new MarkCabinet();
        for (int f = 0; f < 16; f++) {
            due("find " + f, x.find(), f);
        }
        due("the 17th", x.find(), NONE);
        due("asked again", x.find(), NONE);
        nothingIsDone("the 17th", PromiseEdgeTest::fullOfFinds, MarkCabinet::find, NONE);
        MarkCabinet y = table(1, 1);
        due("a find that comes later has a row at once", y.find(), 1);
        due("sure of nothing", y.row(1, 0), 0);
        due("may be all", y.row(1, 1), 1);
    }

    private static void tellings() {
        promise(3, "A KEEPER tells: true; false, and nothing is done, if one can't be, or there are 400 tellings.");
        yes("all can be", busy().tell(1, 3, 5, 999, 9));
        for (int n : FAR) {
            nothingIsDone("keeper " + n, PromiseEdgeTest::busy, x -> bit(x.tell(n, 0, 0, 1, 10)), 0);
            nothingIsDone("find " + n, PromiseEdgeTest::busy, x -> bit(x.tell(0, n, 0, 1, 10)), 0);
            nothingIsDone("measure " + n, PromiseEdgeTest::busy, x -> bit(x.tell(0, 0, n, 1, 10)), 0);
            nothingIsDone("day " + n, PromiseEdgeTest::busy, x -> bit(x.tell(0, 0, 0, 1, n)), 0);
            if (n != -1) {
                nothingIsDone("value " + n, PromiseEdgeTest::busy, x -> bit(x.tell(0, 0, 0, n, 10)), 0);
            }
        }
        nothingIsDone("keeper 2", PromiseEdgeTest::busy, x -> bit(x.tell(2, 0, 0, 1, 10)), 0);
        nothingIsDone("find 4 of 4", PromiseEdgeTest::busy, x -> bit(x.tell(0, 4, 0, 1, 10)), 0);
        nothingIsDone("measure 6", PromiseEdgeTest::busy, x -> bit(x.tell(0, 0, 6, 1, 10)), 0);
        nothingIsDone("value 1000", PromiseEdgeTest::busy, x -> bit(x.tell(0, 0, 0, 1000, 10)), 0);
        nothingIsDone("day 1000", PromiseEdgeTest::busy, x -> bit(x.tell(0, 0, 0, 1, 1000)), 0);
        nothingIsDone("day 8 behind day 9", PromiseEdgeTest::busy, x -> bit(x.tell(0, 0, 0, 1, 8)), 0);
        nothingIsDone("the 401st", PromiseEdgeTest::fullOfTellings, x -> bit(x.tell(0, 0, 0, 1, 9)), 0);
        nothingIsDone("the 401st, on a later day", PromiseEdgeTest::fullOfTellings, x -> bit(x.tell(1, 0, 5, -1, 999)), 0);
    }

    private static void views() {
        promise(4, "THE VIEW: true; false, and nothing is done, if one can't be.");
        for (int keeper = 0; keeper <= 2; keeper++) {
            for (int day = 0; day <= 999; day += 333) {
                MarkCabinet x = busy();
                yes("keeper " + keeper + ", day " + day, x.view(keeper, day));
                due("its keeper", x.look(3), keeper);
                due("its day", x.look(4), day);
            }
        }
        for (int n : FAR) {
            nothingIsDone("keeper " + n, PromiseEdgeTest::busy, x -> bit(x.view(n, 0)), 0);
            nothingIsDone("day " + n, PromiseEdgeTest::busy, x -> bit(x.view(0, n)), 0);
        }
        nothingIsDone("keeper 3", PromiseEdgeTest::busy, x -> bit(x.view(3, 0)), 0);
        nothingIsDone("day 1000", PromiseEdgeTest::busy, x -> bit(x.view(0, 1000)), 0);
    }

    private static void values() {
        promise(5, "What is KNOWN of FIND f's MEASURE in THE VIEW; NONE if nothing, or one can't be.");
        MarkCabinet x = blank(16);
        x.tell(0, 15, 5, 0, 0);
        x.tell(0, 0, 0, 999, 1);
        due("0", x.value(15, 5), 0);
        due("999", x.value(0, 0), 999);
        due("nothing", x.value(0, 1), NONE);
        due("measure 6", x.value(0, 6), NONE);
        due("find 16", x.value(16, 0), NONE);
        noneFarOff("find", n -> x.value(n, 0));
        noneFarOff("measure", n -> x.value(0, n));
        x.view(0, 0);
        due("ahead of its day nothing", x.value(0, 0), NONE);
        x.view(1, 999);
        due("of the other keeper nothing", x.value(15, 5), NONE);
        due("a find that is not there yet", blank(1).value(1, 0), NONE);
    }

    private static void fed() {
        promise(6, "Twenty bytes come behind the TAPE, of each number the highest first: how many it has.");
        for (int p = 0; p < 20; p++) {
            MarkCabinet x = new MarkCabinet();
            due("twenty", feed(x, times(" ", p) + "#", 0), 20);
            x.scales();
            due("a wrong byte at " + p, x.fault(1), p);
        }
        MarkCabinet y = new MarkCabinet();
        due("behind what is there", feed(y, "", 0), 20);
        due("bytes above 127", y.feed(0xFFFFFFFF, LOW, -1, 0x80808080, -1), 40);
        y.scales();
        due("the first of them", y.fault(1), 20);
        due("it was emptied", feed(y, "", 0), 20);
        y.end(3);
        due("behind what was left", feed(y, "#", 0), 23);
        y.scales();
        due("behind what was left", y.fault(1), 3);
        promise(6, "NONE, and nothing comes, if there would be more than 800.");
        MarkCabinet x = new MarkCabinet();
        for (int n = 20; n <= 800; n += 20) {
            due("feed to " + n, feed(x, "", 0), n);
        }
        due("behind 800", feed(x, "", 0), NONE);
        for (int n = 799; n > 780; n--) {
            yes("end " + n, x.end(n));
            due("behind " + n, feed(x, "#", 0), NONE);
        }
        yes("end 780", x.end(780));
        due("behind 780", feed(x, "", 0), 800);
        due("nothing has come", x.scales(), 0);
        nothingIsDone("behind 800", () -> taped(800), c -> feed(c, "#", 0), NONE);
        nothingIsDone("behind 781", () -> taped(781), c -> feed(c, "#", 0), NONE);
    }

    private static void ended() {
        promise(7, "The TAPE has its first n bytes alone: true; false, changing nothing, if it has not so many, or n is below 0.");
        for (int n = 0; n <= 20; n++) {
            MarkCabinet x = new MarkCabinet();
            feed(x, "a>1;b>1;c>1;d>1;e>1;", 0);
            yes("end " + n, x.end(n));
            if (n < 20) {
                no("there is no byte behind it", x.end(n + 1));
            }
            due("feed behind " + n, feed(x, ";", 0), n + 20);
        }
        MarkCabinet x = new MarkCabinet();
        yes("none of an empty one", x.end(0));
        no("one of an empty one", x.end(1));
        feed(x, "a>1;b>1;#", 0);
        yes("the first 8", x.end(8));
        yes("again", x.end(8));
        due("alone", x.scales(), 2);
        no("it is empty then", x.end(1));
        for (int n : FAR) {
            nothingIsDone("end " + n, PromiseEdgeTest::busy, c -> bit(c.end(n)), 0);
        }
        nothingIsDone("end 21 of 20", PromiseEdgeTest::busy, c -> bit(c.end(21)), 0);
        nothingIsDone("end 801 of 800", () -> taped(800), c -> bit(c.end(801)), 0);
        nothingIsDone("end 782 of 781", () -> taped(781), c -> bit(c.end(782)), 0);
    }

    private static void scaled() {
        promise(8, "The TAPE, empty then, are the SCALES: how many MARKS.");
        MarkCabinet x = blank(1);
        due("an empty tape", x.scales(), 0);
        due("one", scale(x, "a>1;"), 1);
        no("the tape is empty", x.end(1));
        due("an empty tape again: none", x.scales(), 0);
        due("none", x.look(1), 0);
        due("twelve", scale(x, times("a=1;", 12)), 12);
        due("fewer again", scale(x, "a=1;b=1;"), 2);
        due("no mark 2 any more", x.mark(0, 2), NONE);
        due("800 bytes", scale(x, "a=1" + times(" ", 796) + ";"), 1);
        MarkCabinet full = blank(1);
        full.tell(0, 0, 0, 7, 0);
        for (int n = 0; n < 10; n++) {
            due("800 bytes, time " + n, scale(full, "a" + times("+1", 397) + "=" + (404 + n % 3) + ";"), 1);
            due("what they cut, time " + n, full.mark(0, 0), n % 3 == 0 ? 1 : 0);
        }
        promise(8, "NONE: a FAULT (they stay).");
        MarkCabinet y = table(3, 3, 6, 1, 4);
        due("a fault", scale(y, "b=1;c=1;#"), NONE);
        due("three stay", y.look(1), 3);
        due("as they were", y.row(1, 0), 6);
        due("the closed sets too", y.concepts(0), 7);
        no("the tape is empty then too", y.end(1));
        due("a 13th", scale(y, times("b=1;", 13)), NONE);
        due("three stay", y.look(1), 3);
        due("as they were", y.row(0, 0), 3);
        due("a fault at the end", scale(y, "b=1;c=1"), NONE);
        due("as they were", y.row(3, 0), 4);
        y.tell(0, 3, 0, 3, 9);
        due("and cut what is told later", y.row(3, 0), 7);
        due("another fault behind it", scale(y, "a/0>1;"), NONE);
        due("as they were", y.row(3, 0), 7);
    }

    private static void faulty() {
        promise(9, "Of the latest scales(): what 0 the FAULT (0 without one), 1 its place (NONE).");
        MarkCabinet x = new MarkCabinet();
        String[] texts = {"", "#", "a>1;", "a/0>1;", "", "((((((((((", "a", "a>1;"};
        int[] kinds = {0, 1, 0, 2, 0, 3, 1, 0};
        int[] places = {NONE, 0, NONE, 2, NONE, 8, 1, NONE};
        due("ahead of all", x.fault(0), 0);
        due("ahead of all", x.fault(1), NONE);
        for (int i = 0; i < texts.length; i++) {
            scale(x, texts[i]);
            due("fault of \"" + texts[i] + "\"", x.fault(0), kinds[i]);
            due("place of \"" + texts[i] + "\"", x.fault(1), places[i]);
            feed(x, "#", 0);
            due("asked again", x.fault(0), kinds[i]);
            x.end(0);
        }
        promise(9, "NONE for another what.");
        MarkCabinet y = new MarkCabinet();
        due("what 2", y.fault(2), NONE);
        noneFarOff("what", y::fault);
        scale(y, "a/0>1;");
        due("what 2", y.fault(2), NONE);
        due("what 3", y.fault(3), NONE);
        noneFarOff("what", y::fault);
    }

    private static void marks() {
        promise(10, "MARK i of FIND f: 1, 0, 2; NONE if one can't be.");
        MarkCabinet x = blank(16);
        x.tell(0, 15, 0, 1, 0);
        scale(x, times("a=1;", 10) + "a=0;b=0;");
        due("1", x.mark(15, 0), 1);
        due("1", x.mark(15, 9), 1);
        due("0", x.mark(15, 10), 0);
        due("2", x.mark(15, 11), 2);
        due("of a find of which nothing is told", x.mark(0, 0), 2);
        due("mark 12", x.mark(15, 12), NONE);
        due("find 16", x.mark(16, 0), NONE);
        noneFarOff("find", n -> x.mark(n, 0));
        noneFarOff("mark", n -> x.mark(0, n));
        scale(x, "a=1;");
        due("mark 1 of one", x.mark(15, 1), NONE);
        scale(x, "");
        due("mark 0 of none", x.mark(15, 0), NONE);
        due("no find", table(12).mark(0, 0), NONE);
    }

    private static void looks() {
        promise(11, "What 0 FINDS, 1 MARKS, 2 tellings, 3 THE VIEW's KEEPER, 4 its DAY, 5 EXAMPLES (NONE: nothing is explored), 6 ACCEPTED rules (NONE).");
        int[] first = {0, 0, 0, 0, 999, NONE, NONE};
        int[] later = {4, 3, 26, 2, 7, 4, 1};
        MarkCabinet x = new MarkCabinet();
        MarkCabinet y = busy();
        for (int what = 0; what <= 6; what++) {
            due("at first, what " + what, x.look(what), first[what]);
            due("later, what " + what, y.look(what), later[what]);
        }
        due("explored without finds", x.explore(0), 0);
        due("no examples", x.look(5), 0);
        due("none accepted", x.look(6), 0);
        promise(11, "NONE - 1 for another what.");
        for (MarkCabinet c : new MarkCabinet[] {new MarkCabinet(), busy()}) {
            due("what 7", c.look(7), -2);
            for (int n : FAR) {
                due("what " + n, c.look(n), -2);
            }
        }
    }

    private static void rowsOfMarks() {
        promise(12, "The set of MARKS that FIND f has; NONE if one can't be.");
        int[] rows = new int[16];
        rows[15] = 4095;
        MarkCabinet x = table(12, rows);
        due("none", x.row(0, 0), 0);
        due("all", x.row(15, 0), 4095);
        due("all, in the other mode", x.row(15, 1), 4095);
        due("find 16", x.row(16, 0), NONE);
        due("mode 2", x.row(0, 2), NONE);
        noneFarOff("find", n -> x.row(n, 0));
        noneFarOff("mode", n -> x.row(0, n));
        due("no marks", table(0, 0).row(0, 1), 0);
        due("no finds", table(12).row(0, 0), NONE);
    }

    private static void having() {
        promise(13, "The set of FINDS that have all of a set of MARKS; NONE if one can't be.");
        int[] rows = new int[16];
        rows[15] = 4095;
        rows[0] = 1;
        MarkCabinet x = table(12, rows);
        due("of none: all", x.have(0, 0), 65535);
        due("of mark 0", x.have(1, 0), 32769);
        due("of all", x.have(4095, 1), 32768);
        due("mark 12", x.have(4096, 0), NONE);
        due("mode 2", x.have(0, 2), NONE);
        noneFarOff("marks", n -> x.have(n, 0));
        noneFarOff("mode", n -> x.have(0, n));
        due("no finds", table(12).have(4095, 0), 0);
        due("no marks", table(0, 0, 0).have(0, 0), 3);
        due("no marks, mark 0", table(0, 0, 0).have(1, 0), NONE);
    }

    private static void closures() {
        promise(14, "CLOSURE; NONE likewise.");
        MarkCabinet x = table(12, 1, 3, 7);
        due("of none", x.close(0, 0), 1);
        due("of mark 2", x.close(4, 0), 7);
        due("of what none has", x.close(8, 0), 4095);
        due("of all", x.close(4095, 0), 4095);
        due("mark 12", x.close(4096, 0), NONE);
        due("mode 2", x.close(0, 2), NONE);
        noneFarOff("marks", n -> x.close(n, 0));
        noneFarOff("mode", n -> x.close(0, n));
        due("of fewer marks", table(3, 1).close(8, 0), NONE);
        due("no finds", table(3).close(0, 1), 7);
    }

    private static void closedCounts() {
        promise(15, "How many CLOSED sets there are; NONE if one can't be.");
        MarkCabinet x = table(3, 3, 6, 1, 4);
        due("seven", x.concepts(0), 7);
        x.find();
        due("sure: the empty row", x.concepts(0), 7);
        due("may: all marks", x.concepts(1), 7);
        due("no marks: the empty set", table(0).concepts(0), 1);
        due("no finds: the full set", table(12).concepts(1), 1);
        due("one find with all: the full set", table(12, 4095).concepts(0), 1);
        due("one find with none: two", table(12, 0).concepts(0), 2);
        x.tell(0, 4, 0, 1, 0);
        x.tell(0, 4, 1, 1, 0);
        due("a row told later: all sets", x.concepts(0), 8);
        x.view(1, 999);
        due("another view: the empty and the full set", x.concepts(0), 2);
        due("mode 2", x.concepts(2), NONE);
        noneFarOff("mode", x::concepts);
    }

    private static void closedSets() {
        promise(16, "CLOSED set i; NONE if there is none such.");
        MarkCabinet x = table(3, 3, 6, 1, 4);
        due("the first", x.concept(0, 0), 0);
        due("the last", x.concept(0, 6), 7);
        due("behind the last", x.concept(0, 7), NONE);
        due("mode 2", x.concept(2, 0), NONE);
        noneFarOff("number", n -> x.concept(0, n));
        noneFarOff("mode", n -> x.concept(n, 0));
        due("no marks", table(0).concept(0, 0), 0);
        due("no marks, the second", table(0).concept(0, 1), NONE);
        scale(x, "a>1;");
        due("fewer by other scales", x.concept(0, 2), NONE);
        due("the last of them", x.concept(0, 1), 1);
    }

    private static void closedNumbers() {
        promise(17, "The number of a set among CLOSED ones; NONE if it is none.");
        MarkCabinet x = table(3, 3, 6, 1, 4);
        due("the first", x.number(0, 0), 0);
        due("the last", x.number(0, 7), 6);
        due("5 is not closed", x.number(0, 5), NONE);
        due("8 is no set", x.number(0, 8), NONE);
        due("mode 2", x.number(2, 0), NONE);
        noneFarOff("set", n -> x.number(0, n));
        noneFarOff("mode", n -> x.number(n, 0));
        due("no finds: the empty set is not closed", table(2).number(0, 0), NONE);
        due("no finds: the full set", table(2).number(0, 3), 0);
        x.view(1, 0);
        due("sure of nothing: 4 is not closed", x.number(0, 4), NONE);
        due("may be all: 0 is not closed", x.number(1, 0), NONE);
        due("may be all: 7 is", x.number(1, 7), 0);
    }

    private static void ruleCounts() {
        promise(18, "How many RULES there are; NONE if one can't be.");
        due("no marks", table(0).rules(0), 0);
        due("no finds", table(12).rules(0), 1);
        due("one find with none", table(12, 0).rules(0), 12);
        due("one find with all", table(12, 4095).rules(1), 1);
        due("all sets are closed", table(3, 3, 5, 6).rules(0), 0);
        due("as many as pairs of twelve", table(12, single(12)).rules(0), 66);
        MarkCabinet later = table(12);
        due("no finds", later.rules(0), 1);
        later.find();
        due("a find told later has none", later.rules(0), 12);
        MarkCabinet x = table(3, 3, 6, 1, 4);
        due("one", x.rules(0), 1);
        due("mode 2", x.rules(2), NONE);
        noneFarOff("mode", x::rules);
    }

    private static void rulesOne() {
        promise(19, "RULE i: what 0 its PREMISE, 1 that one's CLOSURE.");
        MarkCabinet x = table(12, single(12));
        due("the first", x.rule(0, 0, 0), 3072);
        due("the first leads to", x.rule(0, 0, 1), 4095);
        due("the last", x.rule(0, 65, 0), 3);
        due("the last leads to", x.rule(0, 65, 1), 4095);
        due("the empty set can lead", table(2, 3).rule(0, 0, 0), 0);
        promise(19, "NONE if there is none such, or another what.");
        due("behind the last", x.rule(0, 66, 0), NONE);
        due("behind the last", x.rule(0, 66, 1), NONE);
        due("mode 2", x.rule(2, 0, 0), NONE);
        due("what 2", x.rule(0, 0, 2), NONE);
        due("what 10", x.rule(0, 0, 10), NONE);
        noneFarOff("rule", n -> x.rule(0, n, 0));
        noneFarOff("rule leads to", n -> x.rule(0, n, 1));
        noneFarOff("mode", n -> x.rule(n, 0, 0));
        noneFarOff("what", n -> x.rule(0, 0, n));
        due("there are none", table(0).rule(0, 0, 0), NONE);
    }

    private static void follows() {
        promise(20, "To FOLLOW from a set: what 0 all in the end, 1 how many STEPS, 10 + k the RULE of STEP k.");
        MarkCabinet x = table(4, 3, 11, 4, 0);
        due("all", x.follow(0, 6, 0), 15);
        due("steps", x.follow(0, 6, 1), 2);
        due("step 0", x.follow(0, 6, 10), 1);
        due("step 1", x.follow(0, 6, 11), 3);
        due("from none", x.follow(0, 0, 0), 0);
        due("from none, steps", x.follow(0, 0, 1), 0);
        due("from all", x.follow(0, 15, 0), 15);
        due("from all, steps", x.follow(0, 15, 1), 0);
        due("no marks", table(0).follow(0, 0, 0), 0);
        promise(20, "NONE if one can't be, there is none such, or another what.");
        due("step 2 of 2", x.follow(0, 6, 12), NONE);
        due("step 0 of none", x.follow(0, 15, 10), NONE);
        due("mark 4 of 4", x.follow(0, 16, 0), NONE);
        due("mark 4 of 4, steps", x.follow(0, 16, 1), NONE);
        due("mode 2", x.follow(2, 6, 0), NONE);
        noneFarOff("set", n -> x.follow(0, n, 0));
        noneFarOff("mode", n -> x.follow(n, 6, 1));
        noneBetween("of two steps,", 2, n -> x.follow(0, 6, n));
        noneBetween("of no step,", 2, n -> x.follow(0, 15, n));
    }

    private static void againsts() {
        promise(21, "The set of FINDS that have all of the first set and not all of the second one; NONE if one can't be.");
        MarkCabinet x = table(3, 3, 6, 1, 4);
        due("mark 0, not mark 1", x.against(0, 1, 2), 4);
        due("nothing against what it has", x.against(0, 3, 1), 0);
        due("not all of two", x.against(0, 1, 6), 5);
        due("none, all", x.against(0, 0, 7), 15);
        due("none, none", x.against(0, 0, 0), 0);
        due("what none has", x.against(0, 7, 0), 0);
        due("mode 2", x.against(2, 0, 7), NONE);
        due("mark 3 of 3", x.against(0, 8, 7), NONE);
        due("mark 3 of 3", x.against(0, 0, 8), NONE);
        noneFarOff("mode", n -> x.against(n, 0, 0));
        noneFarOff("the first set", n -> x.against(0, n, 0));
        noneFarOff("the second set", n -> x.against(0, 0, n));
        due("no finds", table(3).against(0, 0, 7), 0);
        int[] rows = new int[16];
        due("16 finds", table(1, rows).against(0, 0, 1), 65535);
    }

    private static void explored() {
        promise(22, "EXPLORING begins: EXAMPLES; NONE if there is no such MODE.");
        due("of mode 0", table(3, 3, 6).explore(0), 2);
        due("of mode 1", table(3, 3, 6).explore(1), 2);
        due("no finds", table(3).explore(0), 0);
        due("nothing at all", new MarkCabinet().explore(1), 0);
        due("16 finds", table(12, single(16)).explore(0), 16);
        for (int n : FAR) {
            nothingIsDone("mode " + n, PromiseEdgeTest::busy, x -> x.explore(n), NONE);
        }
        nothingIsDone("mode 2", PromiseEdgeTest::busy, x -> x.explore(2), NONE);
        MarkCabinet x = table(3, 3);
        due("mode 2", x.explore(2), NONE);
        due("nothing is explored", x.look(5), NONE);
        due("nothing is asked", x.question(0), NONE);
    }

    private static void questions() {
        promise(23, "THE QUESTION: what 0 P, 1 the CLOSURE.");
        MarkCabinet x = table(3, 3, 6, 1, 4);
        x.explore(0);
        due("P", x.question(0), 5);
        due("the closure", x.question(1), 7);
        due("asked again", x.question(0), 5);
        MarkCabinet y = table(12);
        y.explore(0);
        due("the empty set", y.question(0), 0);
        due("leads to all", y.question(1), 4095);
        promise(23, "NONE if there is none (any more), nothing is explored, or another what.");
        due("what 2", x.question(2), NONE);
        due("what 10", x.question(10), NONE);
        noneFarOff("what", x::question);
        x.yes();
        due("none any more", x.question(0), NONE);
        due("none any more", x.question(1), NONE);
        MarkCabinet none = table(3, 3, 5, 6);
        due("nothing is explored", none.question(0), NONE);
        due("nothing is explored", none.question(1), NONE);
        none.explore(0);
        due("there is none", none.question(0), NONE);
        due("there is none", none.question(1), NONE);
        MarkCabinet last = table(1);
        last.explore(0);
        due("the full set is never asked", last.question(0), 0);
        due("no", last.no(0), 1);
        due("none any more", last.question(0), NONE);
    }

    private static void yesAnswers() {
        promise(24, "YES: how many are ACCEPTED; NONE, and nothing is done, if there is no QUESTION, or there are 60.");
        MarkCabinet x = table(12, single(12));
        x.explore(0);
        for (int n = 1; n <= 60; n++) {
            due("yes " + n, x.yes(), n);
        }
        due("yes 61", x.yes(), NONE);
        due("there are 60", x.look(6), 60);
        due("the question stays", x.question(1), 4095);
        nothingIsDone("yes 61", PromiseEdgeTest::fullOfAccepted, MarkCabinet::yes, NONE);
        nothingIsDone("nothing is explored", () -> table(3, 3, 6, 1, 4), MarkCabinet::yes, NONE);
        nothingIsDone("no question", () -> begun(table(3, 3, 5, 6)), MarkCabinet::yes, NONE);
        nothingIsDone("no question any more", () -> accepting(begun(table(3, 3, 6, 1, 4))), MarkCabinet::yes, NONE);
    }

    private static MarkCabinet begun(MarkCabinet x) {
        x.explore(0);
        return x;
    }

    private static MarkCabinet accepting(MarkCabinet x) {
        x.yes();
        return x;
    }

    private static void noAnswers() {
        promise(25, "NO: how many EXAMPLES there are; NONE, and nothing is done, if there is no QUESTION, the set can't be, or there are 40.");
        MarkCabinet x = table(12, new int[16]);
        x.explore(0);
        for (int n = 17; n <= 40; n++) {
            due("no " + n, x.no(x.question(0)), n);
        }
        due("no 41", x.no(x.question(0)), NONE);
        int asked = fullOfExamples().question(0);
        nothingIsDone("no 41", PromiseEdgeTest::fullOfExamples, c -> c.no(asked), NONE);
        nothingIsDone("nothing is explored", () -> table(3, 3, 6, 1, 4), c -> c.no(5), NONE);
        nothingIsDone("no question", () -> begun(table(3, 3, 5, 6)), c -> c.no(0), NONE);
        nothingIsDone("no question any more", () -> accepting(begun(table(3, 3, 6, 1, 4))), c -> c.no(5), NONE);
        due("what is asked", busy().question(0), 5);
        due("what can be", busy().no(5), 5);
        for (int marks = -1; marks < 20; marks++) {
            int set = marks;
            if (set != 5) {
                nothingIsDone("the set " + set, PromiseEdgeTest::busy, c -> c.no(set), NONE);
            }
        }
        for (int n : FAR) {
            nothingIsDone("the set " + n, PromiseEdgeTest::busy, c -> c.no(n), NONE);
        }
        nothingIsDone("no mark 4, where the empty set is asked", () -> begun(table(4)), c -> c.no(16), NONE);
        for (int marks = 0; marks <= 12; marks++) {
            int all = 1 << marks;
            MarkCabinet empty = begun(table(marks));
            due("no mark " + marks + " of " + marks, empty.no(all), NONE);
            due("the full set leads to itself", empty.no(all - 1), NONE);
            due("all but the last mark", empty.no(all / 2 - 1), marks == 0 ? NONE : 1);
        }
        MarkCabinet y = table(3, 0);
        y.explore(0);
        y.no(4);
        y.yes();
        due("asked is mark 0", y.question(0), 1);
        nothingIsDone("it breaks what is accepted", PromiseEdgeTest::strict, c -> c.no(3), NONE);
        due("it keeps what is accepted", strict().no(5), 3);
    }

    /** Mark 1 leads to all, so mark 1 and mark 0 alone can't be an example. */
    private static MarkCabinet strict() {
        MarkCabinet x = begun(table(3, 0));
        x.no(4);
        x.yes();
        return x;
    }

    private static void acceptedRules() {
        promise(26, "ACCEPTED rule i: what 0 its premise, 1 its conclusion.");
        MarkCabinet x = fullOfAccepted();
        due("the first", x.accepted(0, 0), 3072);
        due("the first leads to", x.accepted(0, 1), 4095);
        due("the 60th leads to", x.accepted(59, 1), 4095);
        due("the 60th", x.accepted(59, 0), 1 | 1 << 7);
        promise(26, "NONE if there is none such, or another what.");
        due("behind the last", x.accepted(60, 0), NONE);
        due("behind the last", x.accepted(60, 1), NONE);
        due("what 2", x.accepted(0, 2), NONE);
        noneFarOff("rule", n -> x.accepted(n, 0));
        noneFarOff("what", n -> x.accepted(0, n));
        MarkCabinet y = table(3, 3, 6, 1, 4);
        due("nothing is explored", y.accepted(0, 0), NONE);
        y.explore(0);
        due("none is accepted", y.accepted(0, 0), NONE);
        y.yes();
        due("one is", y.accepted(0, 0), 5);
        due("no second one", y.accepted(1, 0), NONE);
        y.explore(0);
        due("begun anew, none is", y.accepted(0, 0), NONE);
    }

    private static void rowCounts() {
        promise(27, "How many ROWS there are; NONE if one can't be.");
        MarkCabinet x = table(3, 3, 6, 1, 4);
        due("two", x.rows(0, 15, 7), 2);
        due("find 4 of 4", x.rows(0, 16, 7), NONE);
        due("mark 3 of 3", x.rows(0, 15, 8), NONE);
        due("mode 2", x.rows(2, 15, 7), NONE);
        noneFarOff("mode", n -> x.rows(n, 15, 7));
        noneFarOff("finds", n -> x.rows(0, n, 7));
        noneFarOff("marks", n -> x.rows(0, 15, n));
        due("none at all is 0, not NONE", table(3, 3, 6, 5).rows(0, 7, 7), 0);
        due("16 finds", table(12, new int[16]).rows(1, 65535, 4095), 20922789888000L);
        MarkCabinet bare = table(0, new int[16]);
        due("no marks", bare.rows(0, 65535, 0), 20922789888000L);
        due("mark 0 of none", bare.rows(0, 65535, 1), NONE);
        MarkCabinet later = table(3, 3, 6, 1, 4);
        due("ahead of a telling", later.rows(0, 15, 7), 2);
        later.tell(0, 2, 0, 0, 1);
        due("behind it", later.rows(0, 15, 7), 4);
        later.view(0, 0);
        due("as it was", later.rows(0, 15, 7), 2);
        later.view(1, 0);
        due("sure of nothing", later.rows(0, 15, 7), 24);
        due("find 16", bare.rows(0, 65536, 0), NONE);
        promise(27, "(Of no FINDS 1.)");
        due("of no finds", x.rows(0, 0, 7), 1);
        due("of no finds, no marks", x.rows(1, 0, 0), 1);
        due("there are none", table(3).rows(0, 0, 7), 1);
        due("nothing at all", new MarkCabinet().rows(1, 0, 0), 1);
        due("but of a mode that is none", x.rows(2, 0, 7), NONE);
        due("but of marks that are none", x.rows(0, 0, 8), NONE);
    }

    private static void places() {
        promise(28, "The i-th FIND of ROW k; NONE if there is none such.");
        MarkCabinet x = table(3, 3, 6, 1, 4);
        int[] row = {2, 0, 1, 3};
        for (int i = 0; i < 4; i++) {
            due("row 0, place " + i, x.place(0, 15, 7, 0, i), row[i]);
            due("row 1, place " + i, x.place(0, 15, 7, 1, i), row[3 - i]);
        }
        due("place 4 of 4", x.place(0, 15, 7, 0, 4), NONE);
        for (int i = 0; i < 4; i++) {
            due("row 2 of 2, place " + i, x.place(0, 15, 7, 2, i), NONE);
            due("row -1, place " + i, x.place(0, 15, 7, -1, i), NONE);
        }
        noneFarOff("place", n -> x.place(0, 15, 7, 0, n));
        noneFarOff("row", n -> x.place(0, 15, 7, n, 0));
        noneFarOff("row", n -> x.place(0, 15, 7, (long) n << 32, 0));
        due("row 2 to the 32", x.place(0, 15, 7, 1L << 32, 0), NONE);
        due("the least long", x.place(0, 15, 7, Long.MIN_VALUE, 0), NONE);
        due("the greatest long", x.place(0, 15, 7, Long.MAX_VALUE, 0), NONE);
        noneFarOff("mode", n -> x.place(n, 15, 7, 0, 0));
        noneFarOff("finds", n -> x.place(0, n, 7, 0, 0));
        noneFarOff("marks", n -> x.place(0, 15, n, 0, 0));
        due("mode 2", x.place(2, 15, 7, 0, 0), NONE);
        due("find 4 of 4", x.place(0, 16, 7, 0, 0), NONE);
        due("mark 3 of 3", x.place(0, 15, 8, 0, 0), NONE);
        due("the row of no finds has no place", x.place(0, 0, 7, 0, 0), NONE);
        due("there is no row", table(3, 3, 6, 5).place(0, 7, 7, 0, 0), NONE);
        due("one find", x.place(0, 8, 7, 0, 0), 3);
        due("one find, row 1", x.place(0, 8, 7, 1, 0), NONE);
        MarkCabinet all = table(12, new int[16]);
        due("the last of 16", all.place(0, 65535, 4095, 20922789887999L, 15), 0);
        for (int i = 0; i < 16; i++) {
            due("behind it, place " + i, all.place(0, 65535, 4095, 20922789888000L, i), NONE);
        }
    }

    private static void crossed() {
        promise(29, "CROSSES: what 0 the sum, 10 + i the i-th FIND of BEST.");
        MarkCabinet x = table(3, 3, 6, 1, 4, 5, 0, 0, 0, 7);
        int[] best = {0, 1, 3, 4, 2};
        due("the sum", x.crosses(0, 31, 7, 0), 1);
        for (int i = 0; i < 5; i++) {
            due("place " + i, x.crosses(0, 31, 7, 10 + i), best[i]);
        }
        due("no finds: the sum", x.crosses(0, 0, 7, 0), 0);
        due("one find", x.crosses(0, 256, 7, 10), 8);
        due("8 finds: the last", x.crosses(0, 255, 7, 17), 7);
        MarkCabinet later = table(3, 3, 6, 5, 0);
        due("ahead of a telling", later.crosses(0, 15, 7, 0), 1);
        later.tell(0, 2, 1, 0, 1);
        due("behind it", later.crosses(0, 15, 7, 0), 0);
        later.view(0, 0);
        due("as it was", later.crosses(0, 15, 7, 0), 1);
        promise(29, "NONE if one can't be, more than 8 FINDS, or another what.");
        due("no finds: no place", x.crosses(0, 0, 7, 10), NONE);
        due("place 5 of 5", x.crosses(0, 31, 7, 15), NONE);
        due("place 8 of 8", x.crosses(0, 255, 7, 18), NONE);
        due("9 finds", x.crosses(0, 511, 7, 0), NONE);
        due("9 finds, a place", x.crosses(0, 511, 7, 10), NONE);
        due("9 finds, no marks", x.crosses(0, 511, 0, 0), NONE);
        due("find 9 of 9", x.crosses(0, 512, 7, 0), NONE);
        due("mark 3 of 3", x.crosses(0, 31, 8, 0), NONE);
        due("mode 2", x.crosses(2, 31, 7, 0), NONE);
        noneFarOff("mode", n -> x.crosses(n, 31, 7, 0));
        noneFarOff("finds", n -> x.crosses(0, n, 7, 0));
        noneFarOff("marks", n -> x.crosses(0, 31, n, 0));
        noneBetween("of five finds,", 1, n -> x.crosses(0, 31, 7, n));
        noneBetween("of no finds,", 1, n -> x.crosses(0, 0, 7, n));
    }

    private static void costs() {
        promise(30, "MARK i (0 .. 11) has a COST: true; false, and nothing is done, if one can't be.");
        MarkCabinet x = new MarkCabinet();
        for (int c = 1; c <= 9; c++) {
            yes("mark 0, which is not cut yet, " + c, x.cost(0, c));
            yes("mark 11, " + c, x.cost(11, c));
        }
        MarkCabinet y = table(2, 1, 2);
        y.cost(1, 9);
        y.cost(0, 3);
        due("it costs so much", y.key(3, 0), 3);
        scale(y, "a=1;a=0;");
        due("whatever the scales", y.key(3, 0), 3);
        scale(y, "a=0;a=1;");
        due("mark 1 costs 9 still", y.key(3, 0), 9);
        nothingIsDone("mark -1", PromiseEdgeTest::busy, c -> bit(c.cost(-1, 1)), 0);
        nothingIsDone("mark 12", PromiseEdgeTest::busy, c -> bit(c.cost(12, 1)), 0);
        for (int i = 0; i < 3; i++) {
            int mark = i;
            nothingIsDone("cost 0 of mark " + i, PromiseEdgeTest::busy, c -> bit(c.cost(mark, 0)), 0);
            nothingIsDone("cost 10 of mark " + i, PromiseEdgeTest::busy, c -> bit(c.cost(mark, 10)), 0);
        }
        for (int n : FAR) {
            nothingIsDone("mark " + n, PromiseEdgeTest::busy, c -> bit(c.cost(n, 9)), 0);
            nothingIsDone("cost " + n, PromiseEdgeTest::busy, c -> bit(c.cost(0, n)), 0);
        }
    }

    private static void keys() {
        promise(31, "A BEST KEY of a set of FINDS: what 0 WORST, 1 the MARK that is asked first (NONE), 2 how many sets of TWINS can be left.");
        MarkCabinet x = table(3, 3, 6, 1, 4);
        x.cost(1, 5);
        due("WORST", x.key(15, 0), 6);
        due("asked first", x.key(15, 1), 0);
        due("sets of twins", x.key(15, 2), 4);
        due("one find: WORST", x.key(8, 0), 0);
        due("one find: none is asked", x.key(8, 1), NONE);
        due("one find: one set", x.key(8, 2), 1);
        due("twins: none is asked", table(2, 3, 3).key(3, 1), NONE);
        due("twins: one set", table(2, 3, 3).key(3, 2), 1);
        due("no marks", table(0, 0, 0).key(3, 2), 1);
        due("the last mark", table(12, 0, 2048).key(3, 1), 11);
        MarkCabinet later = table(2, 1, 2);
        due("ahead of a telling", later.key(3, 2), 2);
        later.tell(0, 1, 0, 1, 1);
        due("behind it, twins", later.key(3, 2), 1);
        later.view(0, 0);
        due("as it was", later.key(3, 2), 2);
        promise(31, "NONE if one can't be (no FIND), or another what.");
        due("no find", x.key(0, 0), NONE);
        due("no find, what 1", x.key(0, 1), NONE);
        due("no find, what 2", x.key(0, 2), NONE);
        due("find 4 of 4", x.key(16, 0), NONE);
        due("what 3", x.key(15, 3), NONE);
        due("what 10", x.key(15, 10), NONE);
        noneFarOff("finds", n -> x.key(n, 0));
        noneFarOff("what", n -> x.key(15, n));
        due("there are no finds", new MarkCabinet().key(0, 0), NONE);
    }

    private static void paths() {
        promise(32, "FIND f (of the set) gone through it: what 0 how many MARKS are asked, 1 their COSTS, 2 the set that is left, 10 + k the k-th MARK.");
        MarkCabinet x = table(3, 3, 6, 1, 4);
        x.cost(1, 5);
        due("asked", x.path(15, 3, 0), 2);
        due("their costs", x.path(15, 3, 1), 6);
        due("left", x.path(15, 3, 2), 8);
        due("the first", x.path(15, 3, 10), 0);
        due("the second", x.path(15, 3, 11), 1);
        due("one find: none is asked", x.path(8, 3, 0), 0);
        due("one find: at no cost", x.path(8, 3, 1), 0);
        due("one find is left", x.path(8, 3, 2), 8);
        due("twins are left", table(2, 1, 1, 0, 0).path(15, 3, 2), 12);
        int[] rows = new int[16];
        rows[15] = 1;
        due("find 15", table(1, rows).path(65535, 15, 2), 32768);
        due("the 15 others", table(1, rows).path(65535, 0, 2), 32767);
        promise(32, "NONE likewise.");
        due("the third of two", x.path(15, 3, 12), NONE);
        due("the first of none", x.path(8, 3, 10), NONE);
        due("no find", x.path(0, 0, 0), NONE);
        due("a find that is not of the set", x.path(7, 3, 0), NONE);
        due("find 4 of 4", x.path(15, 4, 0), NONE);
        due("find 32, which is not find 0", x.path(15, 32, 0), NONE);
        due("find 4 in the set", x.path(31, 0, 0), NONE);
        due("what 3", x.path(15, 3, 3), NONE);
        noneFarOff("finds", n -> x.path(n, 0, 0));
        noneFarOff("find", n -> x.path(15, n, 0));
        noneBetween("of two marks,", 3, n -> x.path(15, 3, n));
        noneBetween("of none,", 3, n -> x.path(8, 3, n));
        due("there are no finds", new MarkCabinet().path(0, 0, 0), NONE);
    }

    private static void quarrels() {
        promise(33, "QUARRELS on a DAY by more than so much (0 .. 999): what 0 how many, 10 + k the k-th one (by FINDS, then MEASURES): 6 times the FIND and the MEASURE.");
        MarkCabinet x = blank(16);
        int[] slots = {95, 90, 6, 5, 0};
        for (int slot : slots) {
            x.tell(0, slot / 6, slot % 6, 0, 3);
            x.tell(1, slot / 6, slot % 6, 999, 3);
        }
        due("five", x.quarrel(3, 0, 0), 5);
        for (int k = 0; k < 5; k++) {
            due("one " + k, x.quarrel(3, 998, 10 + k), slots[4 - k]);
        }
        due("on day 0", x.quarrel(0, 0, 0), 0);
        due("on day 2", x.quarrel(2, 0, 0), 0);
        due("on day 999", x.quarrel(999, 0, 0), 5);
        due("by more than 999", x.quarrel(999, 999, 0), 0);
        promise(33, "NONE if one can't be, there is none such, or another what.");
        due("behind the last", x.quarrel(3, 0, 15), NONE);
        due("the first of none", x.quarrel(2, 0, 10), NONE);
        due("day 1000", x.quarrel(1000, 0, 0), NONE);
        due("by more than 1000", x.quarrel(3, 1000, 0), NONE);
        noneFarOff("day", n -> x.quarrel(n, 0, 0));
        noneFarOff("by", n -> x.quarrel(3, n, 0));
        noneBetween("of five,", 1, n -> x.quarrel(3, 0, n));
        noneBetween("of none,", 1, n -> x.quarrel(2, 0, n));
        due("no finds", new MarkCabinet().quarrel(999, 0, 0), 0);
    }

    private static void changes() {
        promise(34, "CHANGED: likewise; 10 + k: 12 times the FIND and the MARK.");
        MarkCabinet x = blank(16);
        scale(x, "a=1;" + times("b=1;", 10) + "c=1;");
        x.tell(0, 15, 2, 1, 3);
        x.tell(0, 15, 0, 1, 3);
        x.tell(0, 0, 2, 1, 3);
        int[] changed = {11, 180, 191};
        due("three", x.changed(0, 2, 3, 0), 3);
        for (int k = 0; k < 3; k++) {
            due("one " + k, x.changed(0, 2, 3, 10 + k), changed[k]);
            due("back, one " + k, x.changed(0, 3, 2, 10 + k), changed[k]);
        }
        due("from the first day to the last", x.changed(0, 0, 999, 0), 3);
        due("of both", x.changed(2, 0, 999, 0), 3);
        due("of keeper 1", x.changed(1, 0, 999, 0), 0);
        due("the same day", x.changed(0, 3, 3, 0), 0);
        due("behind the last", x.changed(0, 2, 3, 13), NONE);
        due("the first of none", x.changed(0, 3, 3, 10), NONE);
        due("keeper 3", x.changed(3, 2, 3, 0), NONE);
        due("from day 1000", x.changed(0, 1000, 3, 0), NONE);
        due("to day 1000", x.changed(0, 2, 1000, 0), NONE);
        noneFarOff("keeper", n -> x.changed(n, 2, 3, 0));
        noneFarOff("from", n -> x.changed(0, n, 3, 0));
        noneFarOff("to", n -> x.changed(0, 2, n, 0));
        noneBetween("of three,", 1, n -> x.changed(0, 2, 3, n));
        noneBetween("of none,", 1, n -> x.changed(0, 3, 3, n));
        due("no finds", table(12).changed(0, 0, 999, 0), 0);
        due("no marks", table(0, 1).changed(0, 0, 999, 0), 0);
        MarkCabinet all = blank(16);
        scale(all, times("known a;", 12));
        for (int f = 0; f < 16; f++) {
            all.tell(1, f, 0, 0, 1);
        }
        due("all finds and marks", all.changed(1, 0, 1, 0), 192);
        due("the last of all", all.changed(1, 0, 1, 201), 191);
        due("behind it", all.changed(1, 0, 1, 202), NONE);
    }

    /** The document's head: an object is used for at most 512 calls, and the last of them answers like the first. */
    private static void fiveHundredAndTwelve() {
        about("512 calls");
        MarkCabinet x = new MarkCabinet();
        int calls = 0;
        for (int f = 0; f < 16; f++) {
            x.find();
            calls++;
        }
        for (int t = 0; t < 400; t++) {
            x.tell(t & 1, t % 16, t / 16 % 6, t, t);
            calls++;
        }
        while (calls < 511) {
            due("tellings", x.look(2), 400);
            calls++;
        }
        due("the 512th", x.value(14, 0), 398);
    }
}
