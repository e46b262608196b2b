import java.io.IOException;
import java.util.function.IntToLongFunction;

/** The document's terms, sentence by sentence: each that names an edge has a test of its own, on both sides of it. */
public final class TermsEdgeTest extends Quoted {
    public static void main(String[] args) throws IOException {
        openTerms();
        partOne();
        partTwoTexts();
        partTwoTokens();
        partTwoFaults();
        partTwoTruths();
        partThree();
        partFour();
        partFive();
        partSix();
        partSeven();
        finishQuoted();
    }

    // ---- part 1: finds, measures, keepers, days, views

    private static void partOne() {
        findsAreNumbered();
        sixMeasures();
        twoKeepers();
        valuesTold();
        daysTold();
        daysNeverGoBack();
        fourHundredTellings();
        latestByThatDay();
        viewAtFirst();
        viewOfBoth();
    }

    private static void findsAreNumbered() {
        part(1, "FINDS 0 .. 15, numbered as they come.");
        MarkCabinet x = new MarkCabinet();
        no("of find 0 ahead of all", x.tell(0, 0, 0, 1, 0));
        for (int f = 0; f < 16; f++) {
            due("find " + f, x.find(), f);
            yes("find " + f + " can be told of", x.tell(0, f, 0, f, 0));
            no("the one behind it can't", x.tell(0, f + 1, 0, f, 0));
        }
        due("none is the 17th", x.find(), NONE);
        due("the value of find 15", x.value(15, 0), 15);
        due("there is no find 16", x.value(16, 0), NONE);
        due("there is no find -1", x.value(-1, 0), NONE);
    }

    private static void sixMeasures() {
        part(1, "MEASURES a .. f (0 .. 5).");
        MarkCabinet x = blank(1);
        for (int m = 0; m < 6; m++) {
            yes("measure " + m, x.tell(0, 0, m, 100 + m, 0));
        }
        no("measure 6", x.tell(0, 0, 6, 1, 0));
        no("measure -1", x.tell(0, 0, -1, 1, 0));
        due("marks", scale(x, "a=100;b=101;c=102;d=103;e=104;f=105;"), 6);
        due("each letter is its measure", x.row(0, 0), 63);
        due("there is no g", scale(x, "g=106;"), NONE);
        due("its place", x.fault(1), 0);
    }

    private static void twoKeepers() {
        part(1, "KEEPERS 0, 1 tell of a FIND's MEASURE");
        MarkCabinet x = blank(1);
        yes("keeper 0", x.tell(0, 0, 0, 1, 0));
        yes("keeper 1", x.tell(1, 0, 0, 2, 0));
        no("keeper 2", x.tell(2, 0, 0, 3, 0));
        no("keeper -1", x.tell(-1, 0, 0, 3, 0));
        due("tellings", x.look(2), 2);
        due("what keeper 0 told", x.value(0, 0), 1);
        x.view(1, 999);
        due("what keeper 1 told", x.value(0, 0), 2);
    }

    private static void valuesTold() {
        part(1, "a value 0 .. 999 (or -1: none any more),");
        MarkCabinet x = blank(1);
        yes("0", x.tell(0, 0, 0, 0, 0));
        due("0 is a value", x.value(0, 0), 0);
        yes("999", x.tell(0, 0, 0, 999, 0));
        due("999", x.value(0, 0), 999);
        no("1000", x.tell(0, 0, 0, 1000, 0));
        no("-2", x.tell(0, 0, 0, -2, 0));
        no("LOW", x.tell(0, 0, 0, LOW, 0));
        no("HIGH", x.tell(0, 0, 0, HIGH, 0));
        due("still 999", x.value(0, 0), 999);
        yes("-1", x.tell(0, 0, 0, -1, 0));
        due("none any more", x.value(0, 0), NONE);
        scale(x, "known a;a=a;a<0;");
        due("known a", x.mark(0, 0), 0);
        due("a=a", x.mark(0, 1), 2);
        due("-1 is no value to reckon with", x.mark(0, 2), 2);
        yes("none of what was never told", x.tell(0, 0, 1, -1, 0));
        due("it is a telling", x.look(2), 4);
        yes("and told again", x.tell(0, 0, 0, 5, 0));
        due("5", x.value(0, 0), 5);
    }

    private static void daysTold() {
        part(1, "on a DAY 0 .. 999,");
        MarkCabinet x = blank(1);
        no("day -1", x.tell(0, 0, 0, 1, -1));
        no("day LOW", x.tell(0, 0, 0, 1, LOW));
        yes("day 0", x.tell(0, 0, 0, 1, 0));
        no("day 1000", x.tell(0, 0, 0, 1, 1000));
        no("day HIGH", x.tell(0, 0, 0, 1, HIGH));
        yes("day 999", x.tell(0, 0, 0, 2, 999));
        due("tellings", x.look(2), 2);
    }

    private static void daysNeverGoBack() {
        part(1, "never below that of the telling ahead;");
        MarkCabinet x = blank(2);
        yes("day 7", x.tell(0, 0, 0, 1, 7));
        no("day 6", x.tell(0, 0, 0, 2, 6));
        no("day 6, of another find and measure", x.tell(0, 1, 1, 2, 6));
        no("day 6, by the other keeper", x.tell(1, 0, 0, 2, 6));
        no("day 0", x.tell(0, 0, 0, 2, 0));
        due("no telling refused is told", x.look(2), 1);
        no("refused for its value, on day 20", x.tell(0, 0, 0, 1000, 20));
        yes("day 7 again: what was refused is no telling ahead", x.tell(1, 0, 0, 2, 7));
        yes("day 8", x.tell(0, 0, 0, 2, 8));
        no("day 7", x.tell(0, 0, 0, 2, 7));
        yes("day 999", x.tell(0, 0, 0, 2, 999));
        no("day 998", x.tell(0, 0, 0, 2, 998));
        yes("day 999 again", x.tell(0, 0, 0, 3, 999));
    }

    private static void fourHundredTellings() {
        part(1, "400 at most.");
        MarkCabinet x = blank(1);
        for (int t = 0; t < 399; t++) {
            x.tell(t & 1, 0, 0, t, 0);
        }
        due("tellings", x.look(2), 399);
        yes("the 400th", x.tell(0, 0, 0, 777, 0));
        no("the 401st", x.tell(0, 0, 0, 778, 0));
        no("of the other keeper", x.tell(1, 0, 1, 778, 0));
        no("on a later day", x.tell(0, 0, 0, 778, 1));
        no("none any more", x.tell(0, 0, 0, -1, 0));
        due("tellings", x.look(2), 400);
        due("the 400th holds", x.value(0, 0), 777);
    }

    private static void latestByThatDay() {
        part(1, "Of a KEEPER and DAY KNOWN is the latest told by that DAY (none: nothing).");
        MarkCabinet x = blank(1);
        x.tell(0, 0, 0, 10, 5);
        x.tell(0, 0, 0, 11, 5);
        x.tell(1, 0, 0, 12, 6);
        x.tell(0, 0, 0, -1, 8);
        x.tell(0, 0, 0, 13, 999);
        int[] days = {0, 4, 5, 7, 8, 998, 999};
        int[] known = {NONE, NONE, 11, 11, NONE, NONE, 13};
        for (int i = 0; i < days.length; i++) {
            x.view(0, days[i]);
            due("keeper 0 by day " + days[i], x.value(0, 0), known[i]);
        }
        x.view(1, 5);
        due("keeper 1 by day 5", x.value(0, 0), NONE);
        x.view(1, 6);
        due("keeper 1 by day 6", x.value(0, 0), 12);
        due("of another measure nothing", x.value(0, 1), NONE);
    }

    private static void viewAtFirst() {
        part(1, "A VIEW is a KEEPER (2: BOTH) and a DAY (0 and 999 at first): the values that are KNOWN then;");
        MarkCabinet x = blank(1);
        due("keeper 0 at first", x.look(3), 0);
        due("day 999 at first", x.look(4), 999);
        x.tell(1, 0, 0, 4, 999);
        due("keeper 1 is not seen at first", x.value(0, 0), NONE);
        x.tell(0, 0, 0, 5, 999);
        due("told on day 999 is seen at first", x.value(0, 0), 5);
        yes("of keeper 2", x.view(2, 0));
        yes("on day 999", x.view(0, 999));
        no("of keeper 3", x.view(3, 0));
        no("of keeper -1", x.view(-1, 0));
        no("on day 1000", x.view(0, 1000));
        no("on day -1", x.view(0, -1));
        x.view(0, 998);
        due("not yet on day 998", x.value(0, 0), NONE);
    }

    private static void viewOfBoth() {
        part(1, "of BOTH what one alone has, or both alike; unlike ones are not KNOWN.");
        MarkCabinet x = blank(1);
        int[][] told = {{-1, -1, NONE}, {5, -1, 5}, {-1, 6, 6}, {0, -1, 0}, {-1, 0, 0}, {7, 7, 7}, {0, 0, 0}, {7, 8, NONE}, {0, 999, NONE}, {1, 0, NONE}};
        x.view(2, 999);
        due("neither has told", x.value(0, 0), NONE);
        for (int[] t : told) {
            x.tell(0, 0, 0, t[0], 3);
            x.tell(1, 0, 0, t[1], 3);
            due("one " + t[0] + ", the other " + t[1], x.value(0, 0), t[2]);
        }
    }

    // ---- part 2: texts

    private static void partTwoTexts() {
        twelveMarks();
        claimsJoinedByOr();
        claimsJoinedByAnd();
        claims();
        sums();
        products();
        units();
        sixLetters();
    }

    private static void twelveMarks() {
        part(2, "SCALES are a TEXT = {B ;}: the i-th one cuts MARK i (12 at most; none at first).");
        MarkCabinet x = blank(1);
        due("none at first", x.look(1), 0);
        due("no mark 0", x.mark(0, 0), NONE);
        StringBuilder text = new StringBuilder();
        for (int i = 0; i < 12; i++) {
            text.append("a=").append(i).append(';');
            due(i + 1 + " marks", scale(x, text.toString()), i + 1);
            due("no mark behind them", x.mark(0, i + 1), NONE);
        }
        for (int i = 0; i < 12; i++) {
            x.tell(0, 0, 0, i, 0);
            due("the one cut from " + i, x.row(0, 0), 1 << i);
        }
        due("a 13th", scale(x, text + "a=12;"), NONE);
        due("12 stay", x.look(1), 12);
        due("a text of none", scale(x, ""), 0);
        due("none again", x.look(1), 0);
        fault("a=1", 1, 3);
        fault(";", 1, 0);
        fault("a=1;;", 1, 4);
        fault("a=1 b=1;", 1, 4);
    }

    private static void claimsJoinedByOr() {
        part(2, "B = A {or A}.");
        due("one alone", truth("a=7"), 1);
        due("two, the first", truth("a=7 or a=0"), 1);
        due("two, the second", truth("a=0 or a=7"), 1);
        due("as many as there is room for", truth(times("a=0 or ", 112) + "a=7"), 1);
        due("as many, none holds", truth(times("a=0 or ", 112) + "a=0"), 0);
        due("and binds closer", truth("a=7 or a=0 and a=0"), 1);
        fault("or a=7;", 1, 0);
        fault("a=7 or;", 1, 6);
        fault("a=7 or or a=7;", 1, 7);
    }

    private static void claimsJoinedByAnd() {
        part(2, "A = C {and C}.");
        due("two, not the first", truth("a=0 and a=7"), 0);
        due("two, not the second", truth("a=7 and a=0"), 0);
        due("both", truth("a=7 and b=0"), 1);
        due("as many as there is room for", truth(times("a=7 and ", 98) + "a=7"), 1);
        due("as many, not the last", truth(times("a=7 and ", 98) + "a=0"), 0);
        due("and binds closer", truth("a=0 and a=0 or a=7"), 1);
        fault("and a=7;", 1, 0);
        fault("a=7 and;", 1, 7);
        fault("a=7 and or a=7;", 1, 8);
    }

    private static void claims() {
        part(2, "C = E (< | = | >) E | not C | known M | ( B ).");
        due("6<7", truth("6<a"), 1);
        due("7<7", truth("7<a"), 0);
        due("8<7", truth("8<a"), 0);
        due("6=7", truth("6=a"), 0);
        due("7=7", truth("7=a"), 1);
        due("6>7", truth("6>a"), 0);
        due("7>7", truth("7>a"), 0);
        due("8>7", truth("8>a"), 1);
        due("not 7<7", truth("not 7<a"), 1);
        due("not 7=7", truth("not 7=a"), 0);
        due("not 7>7", truth("not 7>a"), 1);
        due("not 6<7", truth("not 6<a"), 0);
        due("not 8>7", truth("not 8>a"), 0);
        due("not binds closest", truth("not a=7 or a=7"), 1);
        due("not binds closer than and", truth("not a=0 and a=0"), 0);
        due("brackets bind", truth("not(a=7 or a=7)"), 0);
        due("brackets behind and", truth("a=7 and(a=0 or b=0)"), 1);
        due("brackets behind and bind", truth("a=0 and(a=7 or a=7)"), 0);
        due("brackets ahead of and bind", truth("(a=7 or a=7)and a=0"), 0);
        due("brackets behind or", truth("a=7 or(a=0)"), 1);
        due("brackets in brackets", truth("a=7 and(b=0 and(a=0 or(c=999)))"), 1);
        due("known", truth("known a"), 1);
        fault("a;", 1, 1);
        fault("a=1=1;", 1, 3);
        fault("a<>1;", 1, 2);
        fault("not;", 1, 3);
        fault("known;", 1, 5);
        fault("known 7;", 1, 6);
        fault("known known a;", 1, 6);
        fault("known(a);", 1, 5);
        fault("();", 1, 1);
        fault("(a=1;", 1, 4);
        fault("a=1);", 1, 3);
        fault("(a=1)=1;", 1, 5);
        fault("(a)=1;", 1, 2);
        fault("1=not a;", 1, 2);
    }

    private static void sums() {
        part(2, "E = T {(+ | -) T}.");
        due("from the left", truth("9-3-2=4"), 1);
        due("from the left", truth("9-3+2=8"), 1);
        due("on both sides", truth("1+2=4-1"), 1);
        due("as many as there is room for", truth("0" + times("+1", 397) + "=397"), 1);
        due("below 0", truth("b-c+999=0"), 1);
        good("a>1" + times("+1", 398) + ";", 1);
        fault("a>1" + times("+1", 398) + "+", 1, 800);
        fault("+a=1;", 1, 0);
        fault("-1=a;", 1, 0);
        fault("a+=1;", 1, 2);
        fault("a+-1=1;", 1, 2);
        fault("a=-1;", 1, 2);
        fault("a+(1)=1;", 1, 2);
    }

    private static void products() {
        part(2, "T = U {* U | / NUMBER}.");
        due("binds closer than +", truth("2+3*4=14"), 1);
        due("binds closer than -", truth("20-7/2*2=14"), 1);
        due("from the left", truth("7/2*5=15"), 1);
        due("from the left", truth("100/7/2=7"), 1);
        due("as many as there is room for", truth("7" + times("*1", 397) + "=a"), 1);
        fault("*1=a;", 1, 0);
        fault("a*=1;", 1, 2);
        fault("/1=a;", 1, 0);
        fault("a/=1;", 1, 2);
        fault("a/b=1;", 1, 2);
        fault("1/a=1;", 1, 2);
        fault("a/(2)=1;", 1, 2);
        fault("a/-1=1;", 1, 2);
    }

    private static void units() {
        part(2, "U = NUMBER | M.");
        due("a number", truth("7=7"), 1);
        due("a measure", truth("a=a"), 1);
        fault("known=1;", 1, 5);
        fault("or=1;", 1, 0);
        fault("a=known b;", 1, 2);
        fault("a=;", 1, 2);
        fault("=a;", 1, 0);
    }

    private static void sixLetters() {
        part(2, "M = a | b | c | d | e | f.");
        for (char c = 'a'; c <= 'z'; c++) {
            if (c <= 'f') {
                good("known " + c + ";", 1);
            } else {
                fault("known " + c + ";", 1, 6);
            }
        }
        fault("known A;", 1, 6);
        fault("known F;", 1, 6);
    }

    // ---- part 2: tokens

    private static void partTwoTokens() {
        letters();
        digits();
        signsAndBlanks();
        wraps();
    }

    private static void letters() {
        part(2, "TOKENS: letters as many as stand together are KEYWORDS (or and not known a b c d e f) or none;");
        good("a<1or b<1and not known c or 1<d and 2<e or 3<f;", 1);
        fault("aa<1;", 1, 0);
        fault("a<b c;", 1, 4);
        fault("a<bc;", 1, 2);
        fault("a<1 orb<1;", 1, 4);
        fault("a<1 ora<1;", 1, 4);
        fault("a<1 o b<1;", 1, 4);
        fault("a<1 orr b<1;", 1, 4);
        fault("a<1 an b<1;", 1, 4);
        fault("a<1 ands b<1;", 1, 4);
        fault("a<1 OR b<1;", 1, 4);
        fault("no a<1;", 1, 0);
        fault("nota<1;", 1, 0);
        fault("notnot a<1;", 1, 0);
        fault("knowna;", 1, 0);
        fault("know a;", 1, 0);
        fault("knowns a;", 1, 0);
        fault("a<bor c<1;", 1, 2);
        fault("n ot a<1;", 1, 0);
        fault("a<1 xr b<1;", 1, 4);
        fault("a<1 ox b<1;", 1, 4);
        fault("a<1 xnd b<1;", 1, 4);
        fault("xot a<1;", 1, 0);
        fault("xnown a;", 1, 0);
        String[] edges = {"a", "z", "A", "Z"};
        for (String letter : edges) {
            fault("a<f" + letter + ";", 1, 2);
            fault("a<" + letter + "f;", 1, 2);
        }
        String[] besides = {"@", "[", "`", "{"};
        for (String sign : besides) {
            fault("a<f" + sign + ";", 1, 3);
        }
        fault("a<1;" + times("a", 796), 1, 4);
    }

    private static void digits() {
        part(2, "digits as many as stand together NUMBERS of 1 to 4 digits or none;");
        due("one", truth("7=a"), 1);
        due("two", truth("07=a"), 1);
        due("three", truth("999=c"), 1);
        due("four", truth("0007=a"), 1);
        due("9999", truth("9999-9000=c"), 1);
        due("0000", truth("0000=b"), 1);
        fault("00007=a;", 1, 0);
        fault("10000>a;", 1, 0);
        fault("a<10000;", 1, 2);
        fault("a<4294967303;", 1, 2);
        fault("a<1 2;", 1, 4);
        fault("a<1;" + times("1", 796), 1, 4);
        fault("1a<1;", 1, 1);
        fault("a1<1;", 1, 1);
        fault("a<1/;", 1, 4);
        fault("a<1:;", 1, 3);
    }

    private static void signsAndBlanks() {
        part(2, "; + - * / ( ) < = > . Blanks (32, 10) between.");
        for (char c = 0; c < 256; c++) {
            String text = "a>1;" + c;
            if (c == 32 || c == 10) {
                good(text, 1);
            } else if (c == '(' || c >= '0' && c <= '9' || c >= 'a' && c <= 'f') {
                fault(text, 1, 5);
            } else {
                fault(text, 1, 4);
            }
        }
        for (char c = 0; c < 256; c++) {
            if (c == 32 || c == 10 || c == '+' || c == '-' || c == '*') {
                good(c == 32 || c == 10 ? "a" + c + ">1;" : "a" + c + "1>1;", 1);
            } else if (c < '0' || c > 'z') {
                fault("b" + c + "#", 1, c == '/' ? 2 : 1);
            }
        }
        good("\n a\n \n>\n1\n;\n", 1);
        good(times(" ", 400) + "a>1;" + times("\n", 396), 1);
        good(times(" \n", 400), 0);
    }

    private static void wraps() {
        part(2, "Ints, which wrap; / goes towards 0.");
        String greatest = "4096*4096*127+4095*4096+4095";
        due("the greatest", truth(greatest + ">0"), 1);
        due("one more is the least", truth(greatest + "+1=4096*4096*128"), 1);
        due("one more is below 0", truth(greatest + "+1<0"), 1);
        due("one less than the least is the greatest", truth("4096*4096*128-1=" + greatest), 1);
        due("2 to the 31", truth("4096*4096*128<0"), 1);
        due("2 to the 32", truth("4096*4096*256=0"), 1);
        due("2 to the 32 and 1", truth("4096*4096*256+1=1"), 1);
        due("7/7", truth("a/7=1"), 1);
        due("6/7", truth("6/7=0"), 1);
        due("13/7", truth("13/7=1"), 1);
        due("0/9999", truth("b/9999=0"), 1);
        due("9998/9999", truth("9998/9999=0"), 1);
        due("the least, a third, towards 0", truth("4096*4096*128/3+715*1000*1000+827*1000+882=0"), 1);
        due("the least, by 1", truth("4096*4096*128/1=4096*4096*128"), 1);
        due("below 0, by 9999, towards 0", truth("4096*4096*255/9999+1677=0"), 1);
        due("little below 0, by more, is 0", truth("4096*4096*128/9999/9999/9999=0"), 1);
    }

    // ---- part 2: faults

    private static void partTwoFaults() {
        firstFault();
        whatCannotStand();
        partsByZero();
        thirteenthMark();
        ninthOpen();
    }

    private static void firstFault() {
        part(2, "FAULTS, the first by its place, at one place the least:");
        fault("a/0>x;", 2, 2);
        fault("x/0>1;", 1, 0);
        fault("a/0/0>1;", 2, 2);
        fault("a>1 a/0>1;", 1, 4);
        fault(times("not ", 9) + "a/0", 3, 32);
        fault("a/0>1 and " + times("not ", 9), 2, 2);
        fault(times("a>1;", 11) + "x;x", 1, 44);
        fault(times("a>1;", 11) + "a/0>1;a>1;", 2, 46);
        fault(times("a>1;", 12) + "a/0>1;", 3, 48);
        fault("((((((((a(", 1, 9);
        fault("((((((((a>(", 1, 10);
        fault("((((((((a/(", 1, 10);
        fault("((((((((a>1(", 1, 11);
        fault("((((((((a not", 1, 10);
        fault("((((((((known not", 1, 14);
        fault("((((((((a>1 not", 1, 12);
    }

    private static void whatCannotStand() {
        part(2, "1 what can't stand there (the end: the text's length).");
        String whole = "not(known a or b*2/3+c-1<d)and e=f;";
        good(whole, 1);
        for (int n = 1; n < whole.length(); n++) {
            MarkCabinet x = new MarkCabinet();
            due("its first " + n + " bytes", scale(x, whole.substring(0, n)), NONE);
            due("its first " + n + " bytes, the fault", x.fault(0), 1);
            boolean cutWord = n < 3 || n > 4 && n < 9 || n == 13 || n > 27 && n < 30;
            int begins = n < 3 ? 0 : n < 9 ? 4 : n == 13 ? 12 : 27;
            due("its first " + n + " bytes, the place", x.fault(1), cutWord ? begins : n);
        }
        fault("a", 1, 1);
        fault("a ", 1, 2);
        fault("a\n \n", 1, 4);
        fault("a" + times(" ", 799), 1, 800);
        fault(times(" ", 799) + "a", 1, 800);
        fault("a>1;b>1" + times(" ", 793), 1, 800);
        good("", 0);
        good(" ", 0);
    }

    private static void partsByZero() {
        part(2, "2 (at the NUMBER) a part by 0.");
        fault("a/0>1;", 2, 2);
        fault("a/ 0>1;", 2, 3);
        fault("a /\n\n00>1;", 2, 5);
        fault("a/000>1;", 2, 2);
        fault("a/0000>1;", 2, 2);
        fault("a/00000>1;", 1, 2);
        fault("a/0", 2, 2);
        fault("a/0#", 2, 2);
        fault("a>b/0;", 2, 4);
        fault("0/0=0;", 2, 2);
        fault("a/2/0=0;", 2, 4);
        good("a/1>1;", 1);
        good("a/0001>1;", 1);
        good("a*0>1;", 1);
        good("0/9999>1;", 1);
    }

    private static void thirteenthMark() {
        part(2, "3 (at its first TOKEN, whatever it is but the end) the 13th MARK;");
        String twelve = times("a>1;", 12);
        good(twelve, 12);
        good(twelve + " ", 12);
        good(twelve + times("\n", 752), 12);
        String[] tokens = {"a>1;", "a", "or", "and", "not", "known", "7", "9999", ";", "+", "-", "*", "/", "(", ")", "<", "=", ">", "x", "ab", "12345", "#", "" + (char) 0, "" + (char) 255};
        for (String token : tokens) {
            fault(twelve + token, 3, 48);
            fault(twelve + " \n" + token, 3, 50);
        }
        fault(times("a>1;", 11) + ";", 1, 44);
        fault(times("a>1;", 11) + "a>1 ", 1, 48);
    }

    private static void ninthOpen() {
        part(2, "(at it) the 9th ( or not that is open.");
        good(times("(", 8) + "a>1" + times(")", 8) + ";", 1);
        good(times("not ", 8) + "a>1;", 1);
        good(times("not(", 4) + "a>1" + times(")", 4) + ";", 1);
        fault(times("(", 9) + "a>1" + times(")", 9) + ";", 3, 8);
        fault(times("not ", 9) + "a>1;", 3, 32);
        fault(times("not(", 4) + "not a>1" + times(")", 4) + ";", 3, 16);
        fault(times("not(", 4) + "(a>1" + times(")", 5) + ";", 3, 16);
        fault(times("(", 8) + "not a>1" + times(")", 8) + ";", 3, 8);
        fault(times("(", 8) + "a>1 or(b>1" + times(")", 9) + ";", 3, 14);
        good(times("(", 7) + "(a>1)and(b>1)or(c>1)" + times(")", 7) + ";", 1);
        good(times("(", 7) + "not a>1 and not b>1 or not c>1" + times(")", 7) + ";", 1);
        fault(times("(", 7) + "not known a and(not b>1)" + times(")", 7) + ";", 3, 23);
        good(times("not ", 8) + "a>1 and " + times("not ", 8) + "b>1;", 1);
        good(times("not ", 8) + "a>1;" + times("(", 8) + "a>1" + times(")", 8) + ";", 2);
    }

    // ---- part 2: three values

    private static void partTwoTruths() {
        threeValues();
        knownIsNeverTwo();
        sureAndMay();
        setsAreNumbers();
    }

    private static void threeValues() {
        part(2, "Asked of a FIND a B is 1, 0, or 2 (not KNOWN): a comparison, if a MEASURE in it is not KNOWN; not of 2; of and, if none is 0 and one is 2; of or, if none is 1 and one is 2.");
        String[] open = {"d=0", "a=d", "d=d", "d<d", "d-d=0", "0*d=0", "a+d>0", "a=7+0*d", "d/9999=0", "a*b*d=0", "e+a=f"};
        for (String claim : open) {
            due(claim, truth(claim), 2);
            due("not " + claim, truth("not " + claim), 2);
            due("not not " + claim, truth("not not " + claim), 2);
        }
        due("no measure", truth("1=1"), 1);
        due("all are known", truth("a+b+c=1006"), 1);
        String[] t = {"a=0", "a=7", "d=0"};
        for (int i = 0; i < 27; i++) {
            int one = i / 9;
            int two = i / 3 % 3;
            int three = i % 3;
            boolean zero = one == 0 || two == 0 || three == 0;
            boolean sure = one == 1 || two == 1 || three == 1;
            boolean notKnown = one == 2 || two == 2 || three == 2;
            String and = t[one] + " and " + t[two] + " and " + t[three];
            due(and, truth(and), zero ? 0 : notKnown ? 2 : 1);
            String or = t[one] + " or " + t[two] + " or " + t[three];
            due(or, truth(or), sure ? 1 : notKnown ? 2 : 0);
        }
        due("a comparison behind one that is not known", truth("d=0 or a=0"), 2);
        due("what is not known stays in its comparison", truth("(d=0)and(a=0)or a=7"), 1);
        MarkCabinet x = blank(1);
        scale(x, "a=1;");
        int[] told = {1, -1, 0, -1, 1, 0, 1};
        for (int v : told) {
            x.tell(0, 0, 0, v, 0);
            due("told " + v + " behind another", x.mark(0, 0), v == -1 ? 2 : v);
        }
    }

    private static void knownIsNeverTwo() {
        part(2, "known M is never 2.");
        due("known a", truth("known a"), 1);
        due("known b, which is 0", truth("known b"), 1);
        due("known d", truth("known d"), 0);
        due("not known d", truth("not known d"), 1);
        due("known d and d=0", truth("known d and d=0"), 0);
        due("not known d or d=0", truth("not known d or d=0"), 1);
        MarkCabinet x = blank(1);
        scale(x, "known a;");
        x.view(2, 999);
        x.tell(0, 0, 0, 1, 0);
        x.tell(1, 0, 0, 2, 0);
        due("unlike ones are not known", x.mark(0, 0), 0);
        x.tell(1, 0, 0, 1, 0);
        due("alike ones are", x.mark(0, 0), 1);
    }

    private static void sureAndMay() {
        part(2, "In MODE 0 (SURE) a FIND has the MARKS that are 1, in MODE 1 (MAY) also those that are 2.");
        MarkCabinet x = blank(1);
        x.tell(0, 0, 0, 1, 0);
        scale(x, "a=1;a=2;b=1;");
        due("sure", x.row(0, 0), 1);
        due("may", x.row(0, 1), 5);
        due("no mode 2", x.row(0, 2), NONE);
        due("no mode -1", x.row(0, -1), NONE);
        closedInBothModes(halfKnown());
        rowsInBothModes(halfKnown());
        crossesInBothModes();
    }

    /** Sure are 1, 1, 2 and 0, may be 1, 3, 3 and 0. */
    private static MarkCabinet halfKnown() {
        MarkCabinet x = table(2, 1, 1, 2, 0);
        scale(x, "a=1;b=1;");
        x.tell(0, 1, 1, -1, 0);
        x.tell(0, 2, 0, -1, 0);
        x.tell(0, 2, 1, 1, 0);
        return x;
    }

    /** What is asked in one mode and then in the other one: first sure, then may, and sure again. */
    private static void inTurn(String what, IntToLongFunction call, long sure, long may) {
        due("sure: " + what, call.applyAsLong(0), sure);
        due("may: " + what, call.applyAsLong(1), may);
        due("sure again: " + what, call.applyAsLong(0), sure);
        due("may again: " + what, call.applyAsLong(1), may);
    }

    private static void closedInBothModes(MarkCabinet x) {
        inTurn("row of find 1", mode -> x.row(1, mode), 1, 3);
        inTurn("row of find 2", mode -> x.row(2, mode), 2, 3);
        inTurn("have mark 0", mode -> x.have(1, mode), 3, 7);
        inTurn("have both", mode -> x.have(3, mode), 0, 6);
        inTurn("closure of mark 1", mode -> x.close(2, mode), 2, 3);
        inTurn("closed sets", x::concepts, 4, 3);
        inTurn("closed set 1", mode -> x.concept(mode, 1), 2, 1);
        inTurn("number of mark 1 alone", mode -> x.number(mode, 2), 1, NONE);
        inTurn("number of both", mode -> x.number(mode, 3), 3, 2);
        inTurn("rules", x::rules, 0, 1);
        inTurn("a premise", mode -> x.rule(mode, 0, 0), NONE, 2);
        inTurn("its closure", mode -> x.rule(mode, 0, 1), NONE, 3);
        inTurn("what follows from mark 1", mode -> x.follow(mode, 2, 0), 2, 3);
        inTurn("steps from mark 1", mode -> x.follow(mode, 2, 1), 0, 1);
        inTurn("mark 0 and not mark 1", mode -> x.against(mode, 1, 2), 3, 1);
        inTurn("asked", mode -> begun(x, mode).question(0), NONE, 2);
        inTurn("leads to", mode -> begun(x, mode).question(1), NONE, 3);
    }

    private static MarkCabinet begun(MarkCabinet x, int mode) {
        x.explore(mode);
        return x;
    }

    private static void rowsInBothModes(MarkCabinet x) {
        inTurn("rows", mode -> x.rows(mode, 15, 3), 12, 8);
        inTurn("row 1, place 1", mode -> x.place(mode, 15, 3, 1, 1), 1, 2);
        inTurn("row 8, place 0", mode -> x.place(mode, 15, 3, 8, 0), 3, NONE);
    }

    private static void crossesInBothModes() {
        MarkCabinet x = blank(3);
        int[] values = {1, 1, 0, 0, 1, 1, 1, 0, -1};
        for (int s = 0; s < 9; s++) {
            x.tell(0, s / 3, s % 3, values[s], 0);
        }
        scale(x, "a=1;b=1;c=1;");
        inTurn("crosses", mode -> x.crosses(mode, 7, 7, 0), 0, 1);
        inTurn("best, place 0", mode -> x.crosses(mode, 7, 7, 10), 1, 0);
        inTurn("best, place 1", mode -> x.crosses(mode, 7, 7, 11), 0, 1);
    }

    private static void setsAreNumbers() {
        part(2, "Sets are numbers: FIND f, MARK i count 2 to the f, i.");
        int[] rows = new int[16];
        rows[0] = 2049;
        rows[15] = 2048;
        MarkCabinet x = table(12, rows);
        due("marks 0 and 11", x.row(0, 0), 2049);
        due("mark 11", x.row(15, 0), 2048);
        due("finds 0 and 15", x.have(2048, 0), 32769);
        due("find 0", x.have(1, 0), 1);
        due("all finds", x.have(0, 0), 65535);
        due("the greatest set of marks", x.have(4095, 0), 0);
        due("no mark 12", x.have(4096, 0), NONE);
        due("no set below 0", x.have(-1, 0), NONE);
        due("no set LOW", x.have(LOW, 0), NONE);
        due("the greatest set of finds", x.key(65535, 2), 3);
        due("no find 16", x.key(65536, 2), NONE);
        due("no set below 0", x.key(-1, 2), NONE);
        due("no set LOW", x.key(LOW, 2), NONE);
    }

    // ---- part 3: closed sets and rules

    private static void partThree() {
        closureOfASet();
        theOrder();
        closedAreNumbered();
        premises();
        rulesAreNumbered();
        stepsAreFollowed();
    }

    private static void closureOfASet() {
        part(3, "CLOSURE of a set of MARKS: all MARKS that all FINDS have that have all of it (all MARKS, if there is none).");
        due("no finds: all marks", table(12).close(0, 0), 4095);
        due("no finds, one mark", table(1).close(0, 0), 1);
        due("no finds, no marks", table(0).close(0, 0), 0);
        due("finds, no marks", table(0, 0, 0).close(0, 0), 0);
        MarkCabinet x = table(4, 3, 7, 11);
        due("of none: what all have", x.close(0, 0), 3);
        due("of one that one find has", x.close(4, 0), 7);
        due("of a row", x.close(11, 0), 11);
        due("none has both", x.close(12, 0), 15);
        due("of all", x.close(15, 0), 15);
        due("a find without marks", table(4, 0, 15).close(0, 0), 0);
        due("one find with all", table(4, 15).close(0, 0), 15);
    }

    private static void theOrder() {
        part(3, "THE ORDER of sets of MARKS: of two the one that lacks the least MARK in which they differ comes first.");
        MarkCabinet one = table(1, 0, 1);
        due("of one mark, first", one.concept(0, 0), 0);
        due("of one mark, last", one.concept(0, 1), 1);
        int[] order = {0, 4, 2, 6, 1, 5, 3, 7};
        MarkCabinet x = table(3, 3, 5, 6);
        for (int i = 0; i < 8; i++) {
            due("set " + i, x.concept(0, i), order[i]);
        }
    }

    private static void closedAreNumbered() {
        part(3, "CLOSED sets are numbered in THE ORDER.");
        int[] rows = new int[12];
        for (int f = 0; f < 12; f++) {
            rows[f] = 4095 ^ 1 << f;
        }
        MarkCabinet x = table(12, rows);
        due("all sets are closed", x.concepts(0), 4096);
        int[] numbers = {0, 1, 2, 3, 2047, 2048, 4094, 4095};
        int[] sets = {0, 2048, 1024, 3072, 4094, 1, 2047, 4095};
        for (int i = 0; i < numbers.length; i++) {
            due("set " + numbers[i], x.concept(0, numbers[i]), sets[i]);
            due("the number of " + sets[i], x.number(0, sets[i]), numbers[i]);
        }
        MarkCabinet y = table(12);
        due("no finds: one closed set", y.concepts(0), 1);
        due("it has all marks", y.concept(0, 0), 4095);
        due("its number", y.number(0, 4095), 0);
        due("the last is always the set of all", table(3, 1).concept(0, 1), 7);
    }

    private static void premises() {
        part(3, "A set P is a PREMISE, if it is not CLOSED, and has the CLOSURE of each PREMISE that is in it and is not itself.");
        due("all sets are closed: none", table(3, 3, 5, 6).rules(0), 0);
        due("no marks: none", table(0, 0).rules(0), 0);
        MarkCabinet x = table(2, 3);
        due("the empty set, and no other", x.rules(0), 1);
        due("the empty set", x.rule(0, 0, 0), 0);
        MarkCabinet y = table(2, 0);
        due("one mark each", y.rules(0), 2);
        due("the first", y.rule(0, 0, 0), 2);
        due("the second", y.rule(0, 1, 0), 1);
        MarkCabinet z = table(4, 3, 11, 4, 0);
        int[] premises = {8, 2, 1, 7};
        due("5, 6 and 12 lack what 1, 2 and 8 lead to", z.rules(0), 4);
        for (int i = 0; i < 4; i++) {
            due("premise " + i, z.rule(0, i, 0), premises[i]);
        }
        due("as many as pairs", table(12, single(12)).rules(0), 66);
    }

    private static void rulesAreNumbered() {
        part(3, "RULES: P leads to its CLOSURE; numbered in THE ORDER of PREMISES.");
        MarkCabinet x = table(12, single(12));
        int i = 0;
        for (int lesser = 11; lesser >= 0; lesser--) {
            for (int greater = 11; greater > lesser; greater--) {
                due("rule " + i, x.rule(0, i, 0), 1 << lesser | 1 << greater);
                due("rule " + i + " leads to", x.rule(0, i, 1), 4095);
                i++;
            }
        }
        due("none behind", x.rule(0, i, 0), NONE);
        MarkCabinet y = table(12);
        due("no finds: the empty set", y.rule(0, 0, 0), 0);
        due("leads to all", y.rule(0, 0, 1), 4095);
    }

    private static void stepsAreFollowed() {
        part(3, "To FOLLOW from a set: again and again the first RULE whose PREMISE is in it and whose CLOSURE is not all in it adds that: a STEP.");
        int[] rows = new int[12];
        for (int p = 0; p < 6; p++) {
            rows[2 * p] = 4095 ^ 3 << 2 * p;
            rows[2 * p + 1] = 4095 ^ 1 << 2 * p;
        }
        MarkCabinet x = table(12, rows);
        due("mark 2p leads to 2p + 1", x.rules(0), 6);
        due("six steps", x.follow(0, 1365, 1), 6);
        for (int k = 0; k < 6; k++) {
            due("rule " + k + " leads from", x.rule(0, k, 0), 1 << 10 - 2 * k);
            due("step " + k, x.follow(0, 1365, 10 + k), k);
        }
        due("to all", x.follow(0, 1365, 0), 4095);
        due("from none no step", x.follow(0, 0, 1), 0);
        due("from none to none", x.follow(0, 0, 0), 0);
        due("from all no step", x.follow(0, 4095, 1), 0);
        due("a closed one stays", x.follow(0, 3, 0), 3);
        due("what it has already is no step", x.follow(0, 7, 1), 1);
        due("the rule of that one", x.follow(0, 7, 10), 4);
        MarkCabinet y = table(4, 3, 11, 4, 0);
        due("a step opens another", y.follow(0, 6, 1), 2);
        due("its first", y.follow(0, 6, 10), 1);
        due("its second", y.follow(0, 6, 11), 3);
        MarkCabinet z = table(4, 8, 12, 14, 15, 0);
        due("of two rules the first", z.follow(0, 3, 10), 1);
        due("it adds all that the other would", z.follow(0, 3, 1), 1);
    }

    // ---- part 4: exploring

    private static void partFour() {
        exploringBegins();
        theQuestion();
        answerYes();
        answerNo();
        exploringStands();
    }

    private static void exploringBegins() {
        part(4, "EXPLORING begins with the rows of all FINDS (as the VIEW and MODE are then) as EXAMPLES (40 at most) and no ACCEPTED rules (60 at most).");
        MarkCabinet x = table(12);
        due("no finds", x.explore(0), 0);
        due("none is accepted", x.look(6), 0);
        due("16 alike are 16", table(12, new int[16]).explore(0), 16);
        MarkCabinet y = table(2, 1, 1);
        y.find();
        y.explore(0);
        due("sure: mark 1 leads to all", y.question(0), 2);
        y.explore(1);
        due("may: all have mark 0", y.question(0), 0);
        due("may: all have mark 0", y.question(1), 1);
        y.view(1, 999);
        y.explore(1);
        due("nothing is known to keeper 1: all may have all", y.question(1), 3);
        y.yes();
        due("one is accepted", y.look(6), 1);
        y.explore(0);
        due("begun anew, none is", y.look(6), 0);
        due("of keeper 1's view", y.look(5), 3);
        fortyExamples();
        sixtyAccepted();
    }

    private static void fortyExamples() {
        MarkCabinet x = table(12, new int[16]);
        x.explore(0);
        for (int n = 17; n < 40; n++) {
            x.no(x.question(0));
        }
        due("39 examples", x.look(5), 39);
        due("the 40th", x.no(x.question(0)), 40);
        due("the 41st", x.no(x.question(0)), NONE);
        due("40 stay", x.look(5), 40);
        due("yes is free still", x.yes(), 1);
    }

    private static void sixtyAccepted() {
        MarkCabinet x = table(12, single(12));
        x.explore(0);
        for (int i = 0; i < 59; i++) {
            x.yes();
        }
        due("59 are accepted", x.look(6), 59);
        due("the 60th", x.yes(), 60);
        due("the 61st", x.yes(), NONE);
        due("60 stay", x.look(6), 60);
        due("no is free still", x.no(x.question(0)), 13);
    }

    private static void theQuestion() {
        part(4, "THE QUESTION: the first set P in THE ORDER that is not its CLOSURE by EXAMPLES, and has of each ACCEPTED rule the conclusion, if it has its premise.");
        due("nothing is explored", table(2, 1).question(0), NONE);
        MarkCabinet none = table(0, 0);
        none.explore(0);
        due("no marks: no question", none.question(0), NONE);
        MarkCabinet all = table(3, 3, 5, 6);
        all.explore(0);
        due("all sets are closed: no question", all.question(0), NONE);
        MarkCabinet x = table(3);
        x.explore(0);
        due("no examples: the empty set", x.question(0), 0);
        due("leads to all", x.question(1), 7);
        x.no(0);
        due("the last mark", x.question(0), 4);
        due("leads to all", x.question(1), 7);
        x.no(6);
        due("again, to less", x.question(0), 4);
        due("again, to less", x.question(1), 6);
        x.yes();
        due("then mark 1", x.question(0), 2);
        x.yes();
        due("then mark 0", x.question(0), 1);
        x.no(1);
        due("1 and 4 have not what 4 leads to: 7 is closed", x.question(0), NONE);
    }

    private static void answerYes() {
        part(4, "YES: P leading to that CLOSURE is ACCEPTED.");
        MarkCabinet x = table(4, 3, 11, 4, 0);
        x.explore(0);
        int[] premises = {8, 2, 1, 7};
        int[] closures = {11, 3, 3, 15};
        for (int i = 0; i < 4; i++) {
            due("asked", x.question(0), premises[i]);
            due("yes", x.yes(), i + 1);
            due("premise " + i, x.accepted(i, 0), premises[i]);
            due("conclusion " + i, x.accepted(i, 1), closures[i]);
        }
        due("no question any more", x.question(0), NONE);
        due("nothing to accept", x.yes(), NONE);
        due("four stay", x.look(6), 4);
    }

    private static void answerNo() {
        part(4, "NO: a set that has P, has not all of that CLOSURE, and has of each ACCEPTED rule the conclusion if it has its premise, is one more EXAMPLE.");
        MarkCabinet x = table(4, 0, 14);
        x.explore(0);
        due("asked is 8", x.question(0), 8);
        due("leads to 14", x.question(1), 14);
        due("has not 8", x.no(6), NONE);
        due("has not 8: the empty set", x.no(0), NONE);
        due("has all of 14", x.no(14), NONE);
        due("has all of 14 and more", x.no(15), NONE);
        due("is no set", x.no(16), NONE);
        due("is no set", x.no(-8), NONE);
        due("nothing was done", x.look(5), 2);
        due("8 itself", x.no(8), 3);
        due("asked is 4", x.question(0), 4);
        due("yes", x.yes(), 1);
        due("asked is 2", x.question(0), 2);
        due("has 4, but not what it leads to", x.no(6), NONE);
        due("with more marks than asked of", x.no(3), 4);
        due("2 is closed now, so 10 is asked", x.question(0), 10);
    }

    private static void exploringStands() {
        part(4, "MARKS are as many as there were when it began; FINDS, SCALES and VIEW told later change nothing of it.");
        MarkCabinet x = table(3, 3, 6, 1, 4);
        x.explore(0);
        x.find();
        x.tell(0, 0, 0, 0, 1);
        x.view(1, 3);
        scale(x, "a>1;");
        due("examples", x.look(5), 4);
        due("asked", x.question(0), 5);
        due("leads to", x.question(1), 7);
        due("mark 3 there was none", x.no(13), NONE);
        due("mark 2 there was", x.no(5), 5);
        MarkCabinet y = table(1, 1);
        y.explore(0);
        scale(y, "a>1;a>2;a>3;");
        due("of one mark", y.question(1), 1);
        due("marks told later can't be in it", y.no(3), NONE);
        due("yes", y.yes(), 1);
        scale(y, "");
        due("what was accepted stays", y.accepted(0, 1), 1);
        MarkCabinet z = table(3);
        z.explore(0);
        z.find();
        due("a find told later is no example", z.look(5), 0);
        due("a find told later is no example", z.question(0), 0);
    }

    // ---- part 5: rows and crosses

    private static void partFive() {
        rowsOfFinds();
        rowsAsWords();
        fewestCrosses();
        bestOrder();
    }

    private static void rowsOfFinds() {
        part(5, "A ROW of a set of FINDS for a set of MARKS: an order of these FINDS in which the FINDS that have a MARK stand behind one another with no others between, for each of these MARKS.");
        MarkCabinet x = table(3, 3, 6, 1, 4);
        due("no finds", x.rows(0, 0, 7), 1);
        due("one find", x.rows(0, 2, 7), 1);
        due("two finds", x.rows(0, 3, 7), 2);
        due("no marks: all orders", x.rows(0, 15, 0), 24);
        due("one mark, two have it", x.rows(0, 15, 1), 12);
        due("all marks", x.rows(0, 15, 7), 2);
        due("no marks again", x.rows(0, 15, 0), 24);
        due("one mark again", x.rows(0, 15, 1), 12);
        due("only these finds", x.rows(0, 13, 7), 4);
        due("all of them again", x.rows(0, 15, 7), 2);
        due("each pair has a mark of its own: none", table(3, 3, 6, 5).rows(0, 7, 7), 0);
        due("a mark that none has", table(2, 0, 0, 0).rows(0, 7, 3), 6);
        due("a mark that all have", table(2, 3, 3, 3).rows(0, 7, 3), 6);
        due("a mark that all but one have", table(1, 1, 1, 0).rows(0, 7, 1), 4);
        due("16 finds, all orders", table(12, new int[16]).rows(0, 65535, 4095), 20922789888000L);
        due("marks that are not asked do not bind", table(3, 3, 6, 5, 0).rows(0, 15, 3), 4);
        MarkCabinet chain = table(12, 1, 3, 6, 12, 24, 48, 96, 192, 384, 768, 1536, 3072, 2048);
        due("twelve marks that bind", chain.rows(0, 8191, 4095), 2);
        int[] runs = new int[16];
        for (int i = 0; i < 12; i++) {
            for (int f = i; f < i + 4; f++) {
                runs[f] |= 1 << i;
            }
        }
        MarkCabinet all = table(12, runs);
        due("sixteen finds, no two alike; the last, without marks, at either end", all.rows(0, 65535, 4095), 4);
        due("the first row ends", all.place(0, 65535, 4095, 0, 15), 15);
        due("the last row ends", all.place(0, 65535, 4095, 3, 15), 0);
    }

    private static void rowsAsWords() {
        part(5, "ROWS are numbered as words: of two the one with the lesser FIND at the first place at which they differ comes first.");
        MarkCabinet x = table(1, 0, 1, 0, 1);
        due("rows of 1, 2, 3", x.rows(0, 14, 1), 4);
        String[] sorted = {"132", "213", "231", "312"};
        for (int k = 0; k < sorted.length; k++) {
            for (int i = 0; i < 3; i++) {
                due("row " + k + ", place " + i, x.place(0, 14, 1, k, i), sorted[k].charAt(i) - '0');
            }
        }
        MarkCabinet y = table(0, new int[16]);
        long last = 20922789888000L - 1;
        for (int i = 0; i < 16; i++) {
            due("the first of all", y.place(0, 65535, 0, 0, i), i);
            due("the last of all", y.place(0, 65535, 0, last, i), 15 - i);
        }
        due("behind the last", y.place(0, 65535, 0, last + 1, 0), NONE);
        due("the last that begins with 0", y.place(0, 65535, 0, 1307674367999L, 0), 0);
        due("the first that begins with 1", y.place(0, 65535, 0, 1307674368000L, 0), 1);
    }

    private static void fewestCrosses() {
        part(5, "CROSSES (8 FINDS at most): the least sum, of all orders, of how many FINDS that have a MARK stand without its longest run, over these MARKS;");
        MarkCabinet x = table(3, 3, 6, 1, 4, 5, 0, 0, 0, 7);
        due("no finds", x.crosses(0, 0, 7, 0), 0);
        due("one find", x.crosses(0, 256, 7, 0), 0);
        due("two finds", x.crosses(0, 17, 7, 0), 0);
        due("a row can be laid", x.crosses(0, 15, 7, 0), 0);
        due("it can't", x.crosses(0, 31, 7, 0), 1);
        due("no marks", x.crosses(0, 31, 0, 0), 0);
        due("8 finds", x.crosses(0, 255, 7, 0), 1);
        due("8 others", x.crosses(0, 510, 7, 0), 0);
        due("9 finds", x.crosses(0, 511, 7, 0), NONE);
        MarkCabinet star = table(12, 1, 2, 3, 5, 9, 17, 33, 4094);
        due("a star", star.crosses(0, 255, 4095, 0), 4);
        int[] cut = new int[8];
        for (int f = 0; f < 8; f++) {
            cut[f] = 255 ^ 1 << f;
        }
        due("each mark lacks one find", table(8, cut).crosses(0, 255, 255, 0), 12);
        int[] pairs = new int[8];
        for (int i = 0; i < 12; i++) {
            pairs[i % 7] |= 1 << i;
            pairs[i % 7 + 1] |= 1 << i;
        }
        due("twelve marks of two neighbours each", table(12, pairs).crosses(0, 255, 4095, 0), 0);
        MarkCabinet tangle = table(12, 1943, 827, 2807, 3964, 3431, 3978, 2507, 3257);
        due("many crosses", tangle.crosses(0, 255, 4095, 0), 18);
        due("many crosses: the fifth of the best order", tangle.crosses(0, 255, 4095, 14), 3);
        due("no marks behind all marks", tangle.crosses(0, 255, 0, 0), 0);
        due("one find behind all", tangle.crosses(0, 1, 4095, 0), 0);
        due("all marks again", tangle.crosses(0, 255, 4095, 0), 18);
        due("without any neighbour", table(12, pairs).crosses(0, 85, 4095, 0), 0);
        due("16 finds", table(1, new int[16]).crosses(0, 65535, 1, 0), NONE);
        due("the last 8 of 16", table(1, new int[16]).crosses(0, 65280, 1, 0), 0);
    }

    private static void bestOrder() {
        part(5, "BEST: the first order with it.");
        MarkCabinet x = table(3, 3, 6, 1, 4, 5);
        int[] best = {0, 1, 3, 4, 2};
        for (int i = 0; i < 5; i++) {
            due("place " + i, x.crosses(0, 31, 7, 10 + i), best[i]);
            due("no marks, place " + i, x.crosses(0, 31, 0, 10 + i), i);
        }
        due("none behind the last", x.crosses(0, 31, 7, 15), NONE);
        due("no finds, no place", x.crosses(0, 0, 7, 10), NONE);
        MarkCabinet y = table(1, 0, 1, 0, 1);
        int[] first = {0, 1, 3, 2};
        for (int i = 0; i < 4; i++) {
            due("the first row of all, place " + i, y.crosses(0, 15, 1, 10 + i), first[i]);
            due("as the row", y.place(0, 15, 1, 0, i), first[i]);
        }
    }

    // ---- part 6: keys

    private static void partSix() {
        costsOfMarks();
        keysOfFinds();
        bestKeys();
    }

    private static void costsOfMarks() {
        part(6, "MARKS have a COST (1 .. 9; 1 at first).");
        MarkCabinet x = table(12, 0, 4095);
        due("1 at first", x.key(3, 0), 1);
        for (int i = 0; i < 12; i++) {
            due("mark " + i + " is the least that costs 1", x.key(3, 1), i);
            no("0", x.cost(i, 0));
            no("-1", x.cost(i, -1));
            no("10", x.cost(i, 10));
            yes("9", x.cost(i, 9));
        }
        due("all cost 9", x.key(3, 0), 9);
        yes("1", x.cost(11, 1));
        due("1 again", x.key(3, 0), 1);
        due("mark 11", x.key(3, 1), 11);
    }

    private static void keysOfFinds() {
        part(6, "A KEY of a set of FINDS: a MARK that none of these has as 2, and some have and some have not, is asked; then those that have it, or those that have not, are left; and so on, until there is no such MARK: TWINS are left.");
        MarkCabinet x = table(3, 1, 1, 5);
        due("mark 0, which all have, and mark 1, which none has, are not asked", x.key(7, 1), 2);
        due("two sets of twins", x.key(7, 2), 2);
        due("those that have it not", x.path(7, 0, 2), 3);
        due("those that have it", x.path(7, 2, 2), 4);
        due("twins: none is asked", x.key(3, 1), NONE);
        due("twins: at no cost", x.key(3, 0), 0);
        due("one find", x.key(4, 2), 1);
        x.tell(0, 0, 1, -1, 0);
        due("mark 2 is 2 of find 0", x.key(7, 1), NONE);
        due("all are left", x.path(7, 2, 2), 7);
        due("it is asked where find 0 is not", x.key(6, 1), 2);
        x.tell(0, 0, 1, 0, 0);
        due("it is asked as soon as it is known", x.key(7, 1), 2);
        x.tell(0, 2, 1, -1, 0);
        due("mark 2 is 2 of find 2", x.key(7, 1), NONE);
        MarkCabinet last = table(1, single(16));
        last.tell(0, 15, 0, -1, 0);
        due("mark 0 is 2 of find 15", last.key(65535, 1), NONE);
        due("it is asked where find 15 is not", last.key(32767, 1), 0);
        MarkCabinet y = table(3, 0, 2, 1, 3);
        y.tell(0, 0, 1, -1, 0);
        y.tell(0, 1, 1, 1, 0);
        y.tell(0, 2, 1, 1, 0);
        y.cost(1, 5);
        due("mark 2 is 2 of find 0", y.path(15, 3, 10), 0);
        due("but that one has gone", y.path(15, 3, 11), 2);
        due("16 leaves", table(12, 0, 1, 2, 3, 4, 5, 6, 7, 8, 9, 10, 11, 12, 13, 14, 15).key(65535, 2), 16);
        MarkCabinet z = table(12, 1, 2, 4, 8, 16, 32, 64, 128, 256, 512, 1024, 2048, 0);
        due("12 marks are asked, one by one", z.path(8191, 12, 0), 12);
        due("13 leaves", z.key(8191, 2), 13);
        MarkCabinet turned = table(12, 4094, 4093, 4091, 4087, 4079, 4063, 4031, 3967, 3839, 3583, 3071, 2047, 4095);
        due("12 marks are asked of the find that has them all", turned.path(8191, 12, 0), 12);
        due("the one with all is left", turned.path(8191, 12, 2), 4096);
        due("13 leaves", turned.key(8191, 2), 13);
        due("WORST of 12 marks", turned.key(8191, 0), 12);
        MarkCabinet none = table(0, 0, 0);
        due("no marks: none is asked", none.key(3, 1), NONE);
        due("no marks: one set of twins", none.key(3, 2), 1);
    }

    private static void bestKeys() {
        part(6, "WORST: the greatest sum of COSTS to be gone; BEST KEYS have the least WORST; at each set the least MARK with which it can be so is asked.");
        MarkCabinet x = table(2, 1, 2);
        due("either: the least", x.key(3, 1), 0);
        x.cost(0, 2);
        due("the cheaper one", x.key(3, 1), 1);
        x.cost(1, 2);
        due("either: the least", x.key(3, 1), 0);
        due("WORST", x.key(3, 0), 2);
        MarkCabinet y = table(4, 0, 1, 2, 3, 4, 8);
        due("six finds by four marks", y.key(63, 0), 4);
        y.cost(0, 9);
        due("the greatest sum", y.key(63, 0), y.path(63, worstFind(y, 6), 1));
        due("what is cheap at the worst", y.key(63, 0), 12);
        MarkCabinet z = table(12, 1, 2, 4, 8, 16, 32, 64, 128, 256, 512, 1024, 2048, 0);
        for (int i = 0; i < 12; i++) {
            z.cost(i, 9);
        }
        due("the greatest there is", z.key(8191, 0), 108);
        due("the least mark first", z.key(8191, 1), 0);
        due("gone to the end", z.path(8191, 12, 1), 108);
        due("gone one step", z.path(8191, 0, 1), 9);
    }

    private static int worstFind(MarkCabinet x, int finds) {
        int worst = 0;
        for (int f = 1; f < finds; f++) {
            if (x.path((1 << finds) - 1, f, 1) > x.path((1 << finds) - 1, worst, 1)) {
                worst = f;
            }
        }
        return worst;
    }

    // ---- part 7: quarrels and changes

    private static void partSeven() {
        quarrelsOnADay();
        changedFinds();
    }

    private static void quarrelsOnADay() {
        part(7, "QUARRELS on a DAY: FINDS and MEASURES of which both KEEPERS' values are KNOWN then and differ by more than told.");
        MarkCabinet x = blank(16);
        due("nothing is told", x.quarrel(999, 0, 0), 0);
        x.tell(0, 0, 0, 5, 10);
        due("one alone", x.quarrel(999, 0, 0), 0);
        x.tell(1, 0, 0, 8, 11);
        due("ahead of the day", x.quarrel(10, 0, 0), 0);
        due("on the day", x.quarrel(11, 0, 0), 1);
        due("by more than 2", x.quarrel(11, 2, 0), 1);
        due("by more than 3", x.quarrel(11, 3, 0), 0);
        x.tell(0, 15, 5, 999, 12);
        x.tell(1, 15, 5, 0, 12);
        due("by more than 998", x.quarrel(12, 998, 0), 1);
        due("by more than 999", x.quarrel(12, 999, 0), 0);
        due("the first", x.quarrel(12, 0, 10), 0);
        due("the last find and measure", x.quarrel(12, 0, 11), 95);
        x.tell(0, 0, 0, 8, 13);
        due("alike", x.quarrel(13, 0, 0), 1);
        x.tell(1, 15, 5, -1, 13);
        due("none any more", x.quarrel(13, 0, 0), 0);
        due("as it was the day ahead", x.quarrel(12, 0, 0), 2);
    }

    private static void changedFinds() {
        part(7, "CHANGED from a DAY to another one, for a KEEPER (2: BOTH): FINDS and MARKS (by SCALES as they are) that are not what they were.");
        MarkCabinet x = blank(16);
        due("no scales", x.changed(0, 0, 999, 0), 0);
        scale(x, "a>0;" + times("a=1;", 10) + "f=2;");
        due("nothing is told", x.changed(0, 0, 999, 0), 0);
        x.tell(0, 15, 5, 2, 5);
        due("2 to 1", x.changed(0, 4, 5, 0), 1);
        due("the last find and mark", x.changed(0, 4, 5, 10), 191);
        due("1 to 2: back again", x.changed(0, 5, 4, 10), 191);
        due("the same day", x.changed(0, 5, 5, 0), 0);
        due("behind the day", x.changed(0, 5, 999, 0), 0);
        due("of the other keeper", x.changed(1, 0, 999, 0), 0);
        due("of both", x.changed(2, 0, 999, 0), 1);
        x.tell(1, 15, 5, 3, 6);
        due("of keeper 1: 2 to 0", x.changed(1, 5, 6, 10), 191);
        due("of both: 1 to 2", x.changed(2, 5, 6, 10), 191);
        due("of keeper 0", x.changed(0, 5, 6, 0), 0);
        x.tell(0, 15, 5, 3, 7);
        due("1 to 0", x.changed(0, 6, 7, 10), 191);
        due("of both: 2 to 0", x.changed(2, 6, 7, 10), 191);
        x.tell(0, 15, 5, 4, 8);
        due("another value, the same mark", x.changed(0, 7, 8, 0), 0);
        scale(x, "f=4;");
        due("by scales as they are", x.changed(0, 7, 8, 10), 180);
        for (int m = 0; m < 6; m++) {
            x.tell(0, 14, m, 4, 9);
        }
        due("all measures are", x.changed(0, 8, 9, 10), 168);
    }
}
