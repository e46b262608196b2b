/** Each promise of the document by hand: ordinary inputs, the edges that it names, and wrong inputs. */
public final class PromiseTest extends Bench {
    private static void promise(int n) {
        about("promise " + n);
    }

    public static void main(String[] args) {
        newObject();
        finds();
        tellings();
        views();
        values();
        tape();
        ends();
        scales();
        faults();
        marks();
        threeValues();
        arithmetic();
        looks();
        rowsOfMarks();
        haves();
        closures();
        concepts();
        rules();
        follows();
        againsts();
        explorations();
        exploringStandsAlone();
        exploringLimits();
        seriations();
        crosses();
        costs();
        keys();
        paths();
        quarrels();
        changes();
        anyArguments();
        finish();
    }

    private static void newObject() {
        promise(1);
        MarkCabinet x = new MarkCabinet();
        due("look(0)", x.look(0), 0);
        due("look(1)", x.look(1), 0);
        due("look(2)", x.look(2), 0);
        due("look(3)", x.look(3), 0);
        due("look(4)", x.look(4), 999);
        due("look(5)", x.look(5), -1);
        due("look(6)", x.look(6), -1);
        due("fault(0)", x.fault(0), 0);
        due("fault(1)", x.fault(1), -1);
        no("end(1)", x.end(1));
        yes("end(0)", x.end(0));
        due("rules(1)", x.rules(1), 0);
        due("concepts(1)", x.concepts(1), 1);
        due("NONE", MarkCabinet.NONE, -1);
        MarkCabinet y = new MarkCabinet();
        x.find();
        due("another one's finds", y.look(0), 0);
    }

    private static void finds() {
        promise(2);
        MarkCabinet x = new MarkCabinet();
        for (int f = 0; f < 16; f++) {
            due("find()", x.find(), f);
        }
        due("the 17th find()", x.find(), -1);
        due("look(0)", x.look(0), 16);
    }

    private static void tellings() {
        promise(3);
        MarkCabinet x = new MarkCabinet();
        no("of no find", x.tell(0, 0, 0, 1, 0));
        x.find();
        no("keeper -1", x.tell(-1, 0, 0, 1, 0));
        no("keeper 2", x.tell(2, 0, 0, 1, 0));
        no("find -1", x.tell(0, -1, 0, 1, 0));
        no("find 1", x.tell(0, 1, 0, 1, 0));
        no("measure -1", x.tell(0, 0, -1, 1, 0));
        no("measure 6", x.tell(0, 0, 6, 1, 0));
        no("value -2", x.tell(0, 0, 0, -2, 0));
        no("value 1000", x.tell(0, 0, 0, 1000, 0));
        no("day -1", x.tell(0, 0, 0, 1, -1));
        no("day 1000", x.tell(0, 0, 0, 1, 1000));
        due("look(2)", x.look(2), 0);
        yes("value 0, day 0", x.tell(0, 0, 0, 0, 0));
        yes("value 999", x.tell(1, 0, 5, 999, 7));
        no("below the day of the other keeper's telling", x.tell(0, 0, 0, 3, 6));
        yes("the same day", x.tell(0, 0, 0, 3, 7));
        yes("none any more", x.tell(0, 0, 0, -1, 7));
        due("value(0, 0)", x.value(0, 0), -1);
        yes("day 999", x.tell(0, 0, 0, 4, 999));
        due("value(0, 0)", x.value(0, 0), 4);
        due("look(2)", x.look(2), 5);
        for (int t = 5; t < 400; t++) {
            yes("telling " + t, x.tell(t & 1, 0, t % 6, t, 999));
        }
        no("the 401st", x.tell(0, 0, 0, 1, 999));
        due("look(2)", x.look(2), 400);
        due("value(0, 4)", x.value(0, 4), 394);
    }

    private static void views() {
        promise(4);
        MarkCabinet x = new MarkCabinet();
        no("keeper -1", x.view(-1, 0));
        no("keeper 3", x.view(3, 0));
        no("day -1", x.view(0, -1));
        no("day 1000", x.view(0, 1000));
        due("look(3)", x.look(3), 0);
        due("look(4)", x.look(4), 999);
        yes("view(2, 0)", x.view(2, 0));
        due("look(3)", x.look(3), 2);
        due("look(4)", x.look(4), 0);
        yes("view(1, 999)", x.view(1, 999));
        due("look(3)", x.look(3), 1);
    }

    private static void values() {
        promise(5);
        MarkCabinet x = new MarkCabinet();
        x.find();
        x.find();
        x.tell(0, 0, 0, 5, 0);
        x.tell(1, 0, 0, 6, 3);
        x.tell(0, 0, 0, 6, 4);
        x.tell(1, 0, 0, -1, 8);
        x.tell(0, 1, 3, 9, 8);
        x.tell(0, 1, 3, 7, 8);
        due("keeper 0 on day 999", x.value(0, 0), 6);
        due("the latest of one day", x.value(1, 3), 7);
        x.view(0, 3);
        due("keeper 0 on day 3", x.value(0, 0), 5);
        due("not yet told", x.value(1, 3), -1);
        x.view(1, 2);
        due("keeper 1 on day 2", x.value(0, 0), -1);
        x.view(1, 3);
        due("keeper 1 on day 3", x.value(0, 0), 6);
        x.view(1, 999);
        due("keeper 1 takes it back", x.value(0, 0), -1);
        x.view(2, 2);
        due("both: one alone", x.value(0, 0), 5);
        x.view(2, 3);
        due("both: unlike", x.value(0, 0), -1);
        x.view(2, 4);
        due("both: alike", x.value(0, 0), 6);
        x.view(2, 8);
        due("both: one took it back", x.value(0, 0), 6);
        due("find -1", x.value(-1, 0), -1);
        due("find 2", x.value(2, 0), -1);
        due("measure -1", x.value(0, -1), -1);
        due("measure 6", x.value(0, 6), -1);
        x.view(0, 5);
        x.tell(0, 0, 0, 1, 9);
        due("told behind the view's day", x.value(0, 0), 6);
    }

    private static void tape() {
        promise(6);
        MarkCabinet x = new MarkCabinet();
        for (int n = 1; n <= 40; n++) {
            due("feed " + n, x.feed(0x20202020, 0x20202020, 0x0A202020, 0x20202020, 0x20202020), 20 * n);
        }
        due("the 41st feed", x.feed(1, 2, 3, 4, 5), -1);
        yes("end(800)", x.end(800));
        no("end(801)", x.end(801));
        yes("end(781)", x.end(781));
        due("feed behind 781", x.feed(1, 2, 3, 4, 5), -1);
        yes("end(780)", x.end(780));
        due("feed behind 780", x.feed(0x613E313B, 0x20202020, 0x20202020, 0x20202020, 0x20202020), 800);
        due("scales()", x.scales(), 1);
        due("the highest byte first", scaleOf(x, 0x31323334, 0x3C35363B), 1);
        due("a byte above 127", scaleOf(x, 0xE1323334, 0x3C35363B), -1);
        due("its place", x.fault(1), 0);
    }

    private static int scaleOf(MarkCabinet x, int a, int b) {
        x.feed(a, b, 0x20202020, 0x20202020, 0x20202020);
        return x.scales();
    }

    private static void ends() {
        promise(7);
        MarkCabinet x = new MarkCabinet();
        x.feed(0x613E313B, 0x623E313B, 0x633E313B, 0x643E313B, 0x653E313B);
        no("end(-1)", x.end(-1));
        no("end(21)", x.end(21));
        no("end(LOW)", x.end(LOW));
        yes("end(20)", x.end(20));
        yes("end(8)", x.end(8));
        no("end(9)", x.end(9));
        due("scales()", x.scales(), 2);
        no("the tape is empty", x.end(1));
        x.feed(1, 2, 3, 4, 5);
        yes("end(0)", x.end(0));
        due("scales() of nothing", x.scales(), 0);
    }

    private static void scales() {
        promise(8);
        MarkCabinet x = new MarkCabinet();
        due("nothing", scale(x, ""), 0);
        due("blanks", scale(x, " \n \n"), 0);
        due("one", scale(x, "a>1;"), 1);
        due("a fault", scale(x, "a>1"), -1);
        due("they stay", x.look(1), 1);
        due("the tape is empty behind a fault", x.feed(0, 0, 0, 0, 0), 20);
        x.end(0);
        due("blanks between", scale(x, "\n a\n> 1 ;b<\n2;"), 2);
        due("no blanks", scale(x, "a<1or b<1and(c=1)or not(d<0)and known e;"), 1);
        due("digits stand against letters", scale(x, "1<a;a<1or 2<b;"), 2);
        due("all of it", scale(x, "a+b*c/3-7<9999*f/2+0;not not(known a or(b=c));"), 2);
        due("12 marks", scale(x, times("a>1;", 12)), 12);
        due("12 marks and blanks", scale(x, times("a>1;", 12) + " \n"), 12);
        due("8 open", scale(x, "not(not(not(not(a>1))));"), 1);
        due("8 open twice", scale(x, "((((((((a>1))))))))and((((((((a>1))))))));"), 1);
        due("a not is open no more behind its claim", scale(x, times("not ", 8) + "a>1 or " + times("not ", 8) + "b>1;"), 1);
        String full = times("a>1", 1) + times(" or a>1", 113);
        due("800 bytes", scale(x, full + times(" ", 799 - full.length()) + ";"), 1);
        due("800 tokens", scale(x, "a>1" + times("+1", 398) + ";"), 1);
        due("none again", scale(x, ""), 0);
        due("look(1)", x.look(1), 0);
    }

    private static void faults() {
        promise(9);
        fault("a", 1, 1);
        fault("a  ", 1, 3);
        fault("a>1", 1, 3);
        fault(";", 1, 0);
        fault("a>1;;", 1, 4);
        fault("a;", 1, 1);
        fault("a>;", 1, 2);
        fault("a>1>2;", 1, 3);
        fault("a>1 b>1;", 1, 4);
        fault("a b;", 1, 2);
        fault("(a)>1;", 1, 2);
        fault("(a>1;", 1, 4);
        fault("a>1);", 1, 3);
        fault(times(" ", 797) + "abc", 1, 797);
        fault(times(" ", 796) + "1234", 1, 800);
        fault(times(" ", 795) + "12345", 1, 795);
        fault(times("(", 8) + times(" ", 791) + "a", 1, 800);
        fault("a>1" + times("+1", 398) + "+", 1, 800);
        fault("a>1 xr b>1;", 1, 4);
        fault("a>1 bnd b>1;", 1, 4);
        fault("bot a>1;", 1, 0);
        fault("nknow a;", 1, 0);
        fault("az>1;", 1, 0);
        fault("aA>1;", 1, 0);
        fault("aZ>1;", 1, 0);
        fault("a@>1;", 1, 1);
        fault("a[>1;", 1, 1);
        fault("a`>1;", 1, 1);
        fault("a{>1;", 1, 1);
        fault("a:>1;", 1, 1);
        fault("a>(b);", 1, 2);
        fault("a>not b;", 1, 2);
        fault("known 1>2;", 1, 6);
        fault("known (a);", 1, 6);
        fault("known a>1;", 1, 7);
        fault("-a>1;", 1, 0);
        fault("a>1 or;", 1, 6);
        fault("a>1 and or b>1;", 1, 8);
        fault("or;", 1, 0);
        fault("g>1;", 1, 0);
        fault("ab>1;", 1, 0);
        fault("aor b;", 1, 0);
        fault("A>1;", 1, 0);
        fault("aB>1;", 1, 0);
        fault("nota>1;", 1, 0);
        fault("1a>1;", 1, 1);
        fault("a1>1;", 1, 1);
        fault("12345>1;", 1, 0);
        fault("00001>1;", 1, 0);
        fault("a/b>1;", 1, 2);
        fault("a/12345>1;", 1, 2);
        fault("a/00000>1;", 1, 2);
        fault("a>1;\t", 1, 4);
        fault("a>1;" + (char) 13, 1, 4);
        fault("a>1;" + (char) 0, 1, 4);
        fault("a>1;" + (char) 228, 1, 4);
        fault("a!1;", 1, 1);
        fault("a/0>1;", 2, 2);
        fault("a /\n 0000 ;", 2, 5);
        fault("a*b/2/0>x;", 2, 6);
        fault("x/0>1;", 1, 0);
        fault("((((((((((", 3, 8);
        fault(times("not ", 9) + "a>1;", 3, 32);
        fault("not(not(not(not(not", 3, 16);
        fault("((((((((a(", 1, 9);
        fault("((((((((known(", 1, 13);
        fault("((((((((a>0)and(b>0)and((", 3, 24);
        fault(times("a>1;", 12) + "a>1;", 3, 48);
        fault(times("a>1;", 12) + " \nx", 3, 50);
        fault(times("a>1;", 12) + ";", 3, 48);
        fault(times("a>1;", 12) + "#", 3, 48);
        fault(times("a>1;", 12) + "12345", 3, 48);
        fault(times("a>1;", 11) + "a>1", 1, 47);
        MarkCabinet x = new MarkCabinet();
        scale(x, "a/0<1;");
        due("another what", x.fault(2), -1);
        due("another what", x.fault(-1), -1);
        due("good again", scale(x, "a/9999<1;"), 1);
        due("fault(0)", x.fault(0), 0);
        due("fault(1)", x.fault(1), -1);
    }

    private static void marks() {
        promise(10);
        MarkCabinet x = new MarkCabinet();
        x.find();
        scale(x, "a>1;a=1;a<1;");
        x.tell(0, 0, 0, 1, 5);
        due("a>1", x.mark(0, 0), 0);
        due("a=1", x.mark(0, 1), 1);
        due("a<1", x.mark(0, 2), 0);
        due("mark 3", x.mark(0, 3), -1);
        due("mark -1", x.mark(0, -1), -1);
        due("find 1", x.mark(1, 0), -1);
        due("find -1", x.mark(-1, 0), -1);
        x.view(0, 4);
        due("ahead of its day", x.mark(0, 1), 2);
        x.view(0, 5);
        due("on its day", x.mark(0, 1), 1);
        x.tell(0, 0, 0, 0, 5);
        due("told anew", x.mark(0, 2), 1);
        scale(x, "a=0;");
        due("other scales", x.mark(0, 0), 1);
        due("no mark 1 any more", x.mark(0, 1), -1);
    }

    private static void threeValues() {
        promise(10);
        String[] t = {"a=0", "a=7", "d=0"};
        for (int i = 0; i < 3; i++) {
            due("not " + t[i], truth("not " + t[i]), i == 2 ? 2 : 1 - i);
            for (int j = 0; j < 3; j++) {
                due(t[i] + " and " + t[j], truth(t[i] + " and " + t[j]), i == 0 || j == 0 ? 0 : i == 2 || j == 2 ? 2 : 1);
                due(t[i] + " or " + t[j], truth(t[i] + " or " + t[j]), i == 1 || j == 1 ? 1 : i == 2 || j == 2 ? 2 : 0);
            }
        }
        due("known a", truth("known a"), 1);
        due("known d", truth("known d"), 0);
        due("not known d", truth("not known d"), 1);
        due("d-d=0", truth("d-d=0"), 2);
        due("0*d=0", truth("0*d=0"), 2);
        due("a<1 or d*0=0 and a=7", truth("a<1 or d*0=0 and a=7"), 2);
        due("a=7 or d=1 and a=0", truth("a=7 or d=1 and a=0"), 1);
        due("(a=7 or d=1)and a=0", truth("(a=7 or d=1)and a=0"), 0);
        due("a=0 and a=0 or a=7", truth("a=0 and a=0 or a=7"), 1);
        due("a=7 or a=0 and a=0", truth("a=7 or a=0 and a=0"), 1);
        due("not a=7 or a=7", truth("not a=7 or a=7"), 1);
        due("not(a=7 or a=7)", truth("not(a=7 or a=7)"), 0);
        due("d=1 and a=0", truth("d=1 and a=0"), 0);
        due("d=1 or a=7", truth("d=1 or a=7"), 1);
        due("d=1 or d=2 or b=0 and b=0", truth("d=1 or d=2 or b=0 and b=0"), 1);
    }

    private static void arithmetic() {
        promise(10);
        due("2+3*4=14", truth("2+3*4=14"), 1);
        due("2*3+4=10", truth("2*3+4=10"), 1);
        due("9-3-2=4", truth("9-3-2=4"), 1);
        due("9-3+2=8", truth("9-3+2=8"), 1);
        due("7*5/2=17", truth("7*5/2=17"), 1);
        due("7/2*5=15", truth("7/2*5=15"), 1);
        due("100/7/2=7", truth("100/7/2=7"), 1);
        due("1+7/2*2-1*3=4", truth("1+7/2*2-1*3=4"), 1);
        due("b-a=0-7", truth("b-a=0-7"), 1);
        due("towards 0", truth("0-7/2=0-3"), 1);
        due("0007=a", truth("0007=a"), 1);
        due("9999>c*10", truth("9999>c*10"), 1);
        due("c*10+9=9999", truth("c*10+9=9999"), 1);
        due("4096*4096*128 wraps", truth("4096*4096*128<0"), 1);
        due("4096*4096*256=0", truth("4096*4096*256=0"), 1);
        due("a wrapped one, parted", truth("4096*4096*128/3=0-7*1000*1000*102-1827*1000-882-666"), 0);
        due("a wrapped one, parted, towards 0", truth("4096*4096*128/4096=0-4096*128"), 1);
        due("a negative one, parted, towards 0", truth("a*4096*4096*32/9999*0=b"), 1);
        due("all measures", truth("a=7 and b=0 and c=999 and not(known d or known e or known f)"), 1);
    }

    private static void looks() {
        promise(11);
        MarkCabinet x = table(3, 1, 2, 4);
        due("look(0)", x.look(0), 3);
        due("look(1)", x.look(1), 3);
        due("look(2)", x.look(2), 18);
        x.view(2, 77);
        due("look(3)", x.look(3), 2);
        due("look(4)", x.look(4), 77);
        due("look(5)", x.look(5), -1);
        x.explore(0);
        due("look(5)", x.look(5), 3);
        due("look(6)", x.look(6), 0);
        x.yes();
        due("look(6)", x.look(6), 1);
        due("look(7)", x.look(7), -2);
        due("look(-1)", x.look(-1), -2);
        due("look(LOW)", x.look(LOW), -2);
    }

    private static void rowsOfMarks() {
        promise(12);
        MarkCabinet x = table(12, 4095, 0, 2730, 1365);
        due("row(0, 0)", x.row(0, 0), 4095);
        due("row(1, 0)", x.row(1, 0), 0);
        due("row(2, 1)", x.row(2, 1), 2730);
        due("row(3, 0)", x.row(3, 0), 1365);
        x.find();
        due("sure of nothing", x.row(4, 0), 0);
        due("may be all", x.row(4, 1), 4095);
        due("no such find", x.row(5, 0), -1);
        due("no such find", x.row(-1, 0), -1);
        due("no such mode", x.row(0, 2), -1);
        due("no such mode", x.row(0, -1), -1);
    }

    private static void haves() {
        promise(13);
        MarkCabinet x = table(3, 3, 6, 1, 4);
        x.find();
        due("have(0, 0)", x.have(0, 0), 31);
        due("have(1, 0)", x.have(1, 0), 5);
        due("have(2, 0)", x.have(2, 0), 3);
        due("have(5, 0)", x.have(5, 0), 0);
        due("have(5, 1)", x.have(5, 1), 16);
        due("have(8, 0)", x.have(8, 0), -1);
        due("have(-1, 0)", x.have(-1, 0), -1);
        due("have(0, 2)", x.have(0, 2), -1);
        MarkCabinet y = table(12, 1, 1, 1, 1, 1, 1, 1, 1, 1, 1, 1, 1, 1, 1, 1, 1);
        due("16 finds", y.have(1, 0), 65535);
        due("16 finds", y.have(2, 0), 0);
    }

    private static void closures() {
        promise(14);
        MarkCabinet x = table(4, 3, 7, 11);
        due("close(0, 0)", x.close(0, 0), 3);
        due("close(4, 0)", x.close(4, 0), 7);
        due("close(12, 0)", x.close(12, 0), 15);
        due("close(16, 0)", x.close(16, 0), -1);
        due("close(-1, 0)", x.close(-1, 0), -1);
        due("close(0, 2)", x.close(0, 2), -1);
        due("close(0, -1)", x.close(0, -1), -1);
        x.find();
        due("sure", x.close(0, 0), 0);
        due("may", x.close(0, 1), 3);
        due("may", x.close(12, 1), 15);
        due("no finds", table(12).close(5, 0), 4095);
    }

    private static void concepts() {
        promise(15);
        MarkCabinet x = table(3, 3, 6, 1, 4);
        due("concepts(0)", x.concepts(0), 7);
        due("concepts(1)", x.concepts(1), 7);
        due("concepts(2)", x.concepts(2), -1);
        due("concepts(-1)", x.concepts(-1), -1);
        int[] rows = new int[12];
        for (int f = 0; f < 12; f++) {
            rows[f] = 4095 ^ 1 << f;
        }
        MarkCabinet y = table(12, rows);
        due("all sets are closed", y.concepts(0), 4096);
        promise(16);
        int[] due = {0, 4, 2, 6, 1, 3, 7};
        for (int i = 0; i < 7; i++) {
            due("concept(0, " + i + ")", x.concept(0, i), due[i]);
        }
        due("concept(0, 7)", x.concept(0, 7), -1);
        due("concept(0, -1)", x.concept(0, -1), -1);
        due("concept(2, 0)", x.concept(2, 0), -1);
        due("the second of all", y.concept(0, 1), 2048);
        due("the last but one of all", y.concept(0, 4094), 2047);
        due("the last of all", y.concept(0, 4095), 4095);
        due("behind all", y.concept(0, 4096), -1);
        promise(17);
        for (int i = 0; i < 7; i++) {
            due("number(0, " + due[i] + ")", x.number(0, due[i]), i);
        }
        due("number(0, 5)", x.number(0, 5), -1);
        due("number(0, 8)", x.number(0, 8), -1);
        due("number(0, -1)", x.number(0, -1), -1);
        due("number(2, 0)", x.number(2, 0), -1);
        due("number(0, 1) of all", y.number(0, 1), 2048);
        due("number(0, 2048) of all", y.number(0, 2048), 1);
        x.tell(0, 3, 0, 3, 1);
        due("the table has changed", x.number(0, 5), -1);
        x.tell(0, 3, 0, 1, 1);
        due("the table has changed", x.number(0, 5), 5);
    }

    private static void rules() {
        promise(18);
        MarkCabinet x = table(3, 3, 6, 1, 4);
        due("rules(0)", x.rules(0), 1);
        due("rules(2)", x.rules(2), -1);
        due("rules(-1)", x.rules(-1), -1);
        int[] single = new int[12];
        for (int f = 0; f < 12; f++) {
            single[f] = 1 << f;
        }
        MarkCabinet y = table(12, single);
        due("all pairs", y.rules(0), 66);
        due("no finds", table(12).rules(0), 1);
        due("no finds, no marks", table(0).rules(0), 0);
        promise(19);
        due("rule(0, 0, 0)", x.rule(0, 0, 0), 5);
        due("rule(0, 0, 1)", x.rule(0, 0, 1), 7);
        due("rule(0, 0, 2)", x.rule(0, 0, 2), -1);
        due("rule(0, 0, -1)", x.rule(0, 0, -1), -1);
        due("rule(0, 1, 0)", x.rule(0, 1, 0), -1);
        due("rule(0, -1, 0)", x.rule(0, -1, 0), -1);
        due("rule(2, 0, 0)", x.rule(2, 0, 0), -1);
        due("first pair", y.rule(0, 0, 0), 3072);
        due("second pair", y.rule(0, 1, 0), 2048 + 512);
        due("last pair", y.rule(0, 65, 0), 3);
        due("its closure", y.rule(0, 65, 1), 4095);
        due("none leads to all", table(12).rule(0, 0, 0), 0);
        due("none leads to all", table(12).rule(0, 0, 1), 4095);
        // 5 and 6 are not closed, but have 1 or 2 and not 3, so the premise is 7.
        MarkCabinet z = table(4, 3, 11, 4, 0);
        int[] premises = {8, 2, 1, 7};
        int[] closures = {11, 3, 3, 15};
        due("rules", z.rules(0), 4);
        for (int i = 0; i < 4; i++) {
            due("premise " + i, z.rule(0, i, 0), premises[i]);
            due("closure " + i, z.rule(0, i, 1), closures[i]);
        }
    }

    private static void follows() {
        promise(20);
        // 0 leads to 1, 1 leads to 2, 2 leads to 3: step by step, the first rule that can.
        MarkCabinet x = table(4, 8, 12, 14, 15, 0);
        due("rules", x.rules(0), 3);
        due("rule 0", x.rule(0, 0, 0), 4);
        due("rule 1", x.rule(0, 1, 0), 2);
        due("rule 2", x.rule(0, 2, 0), 1);
        due("all in the end", x.follow(0, 1, 0), 15);
        due("steps", x.follow(0, 1, 1), 1);
        due("step 0", x.follow(0, 1, 10), 2);
        due("step 1", x.follow(0, 1, 11), -1);
        due("of two rules the first one", x.follow(0, 6, 10), 0);
        due("a closed one", x.follow(0, 12, 1), 0);
        due("a closed one", x.follow(0, 12, 0), 12);
        due("another what", x.follow(0, 1, 2), -1);
        due("another what", x.follow(0, 1, 9), -1);
        due("another what", x.follow(0, 1, -1), -1);
        due("another what", x.follow(0, 1, LOW), -1);
        due("another what", x.follow(0, 1, HIGH), -1);
        due("no such mode", x.follow(2, 1, 0), -1);
        due("no such set", x.follow(0, 16, 0), -1);
        due("no such set", x.follow(0, -1, 0), -1);
        MarkCabinet y = table(4, 3, 11, 4, 0);
        due("one step", y.follow(0, 12, 1), 1);
        due("two steps", y.follow(0, 6, 1), 2);
        due("two steps, the first", y.follow(0, 6, 10), 1);
        due("two steps, the second", y.follow(0, 6, 11), 3);
        due("two steps, no third", y.follow(0, 6, 12), -1);
        due("two steps, all in the end", y.follow(0, 6, 0), 15);
    }

    private static void againsts() {
        promise(21);
        MarkCabinet x = table(3, 3, 6, 1, 4);
        due("against(0, 1, 2)", x.against(0, 1, 2), 4);
        due("against(0, 0, 7)", x.against(0, 0, 7), 15);
        due("against(0, 2, 2)", x.against(0, 2, 2), 0);
        due("against(0, 0, 0)", x.against(0, 0, 0), 0);
        due("against(2, 0, 0)", x.against(2, 0, 0), -1);
        due("against(0, 8, 0)", x.against(0, 8, 0), -1);
        due("against(0, 0, 8)", x.against(0, 0, 8), -1);
        due("against(0, -1, 0)", x.against(0, -1, 0), -1);
        due("against(0, 0, -1)", x.against(0, 0, -1), -1);
        x.find();
        due("sure", x.against(0, 0, 1), 26);
        due("may", x.against(1, 0, 1), 10);
    }

    private static void explorations() {
        MarkCabinet x = table(3, 3, 6, 1, 4);
        promise(22);
        due("explore(2)", x.explore(2), -1);
        due("explore(-1)", x.explore(-1), -1);
        due("nothing is explored", x.look(5), -1);
        promise(23);
        due("nothing is asked", x.question(0), -1);
        promise(24);
        due("nothing to accept", x.yes(), -1);
        promise(25);
        due("nothing to refute", x.no(5), -1);
        promise(26);
        due("nothing accepted", x.accepted(0, 0), -1);
        promise(22);
        due("explore(0)", x.explore(0), 4);
        promise(23);
        due("question(0)", x.question(0), 5);
        due("question(1)", x.question(1), 7);
        due("question(2)", x.question(2), -1);
        due("question(-1)", x.question(-1), -1);
        promise(25);
        due("has not the premise", x.no(4), -1);
        due("has all of the closure", x.no(7), -1);
        due("no such set", x.no(8), -1);
        due("no such set", x.no(-1), -1);
        due("a counterexample", x.no(5), 5);
        due("no question any more", x.no(5), -1);
        promise(23);
        due("no question any more", x.question(0), -1);
        due("no question any more", x.question(1), -1);
        promise(24);
        due("no question any more", x.yes(), -1);
        promise(22);
        due("a new beginning", x.explore(1), 4);
        promise(24);
        due("yes()", x.yes(), 1);
        promise(26);
        due("accepted(0, 0)", x.accepted(0, 0), 5);
        due("accepted(0, 1)", x.accepted(0, 1), 7);
        due("accepted(0, 2)", x.accepted(0, 2), -1);
        due("accepted(0, -1)", x.accepted(0, -1), -1);
        due("accepted(1, 0)", x.accepted(1, 0), -1);
        due("accepted(-1, 0)", x.accepted(-1, 0), -1);
        promise(22);
        due("no such mode: it goes on", x.explore(2), -1);
        due("as it was", x.look(6), 1);
        due("begun anew", x.explore(0), 4);
        due("nothing is accepted", x.look(6), 0);
        promise(26);
        due("nothing is accepted", x.accepted(0, 0), -1);
        // An answer must keep what has been accepted: here that 2 leads to 1.
        MarkCabinet y = table(3);
        promise(22);
        due("no finds", y.explore(0), 0);
        promise(23);
        due("none leads to all", y.question(0) * 10 + y.question(1), 7);
        promise(25);
        due("the empty one", y.no(0), 1);
        promise(23);
        due("the last mark first", y.question(0), 4);
        promise(25);
        due("with another", y.no(6), 2);
        promise(23);
        due("asked again, for less", y.question(0), 4);
        due("asked again, for less", y.question(1), 6);
        promise(24);
        due("yes", y.yes(), 1);
        promise(23);
        due("the next one", y.question(0), 2);
        due("the next one", y.question(1), 6);
        promise(25);
        due("keeps", y.no(2), 3);
        promise(23);
        due("then the least mark", y.question(0), 1);
        promise(25);
        due("breaks what was accepted", y.no(5), -1);
        due("keeps it", y.no(3), 4);
    }

    private static void exploringStandsAlone() {
        promise(23);
        MarkCabinet x = table(3, 3, 6, 1, 4);
        x.explore(0);
        x.find();
        x.tell(0, 0, 0, 0, 1);
        x.view(1, 3);
        scale(x, "a>1;");
        due("question(0)", x.question(0), 5);
        due("question(1)", x.question(1), 7);
        promise(25);
        due("as many marks as there were", x.no(5), 5);
        promise(23);
        x.view(0, 0);
        scale(x, "a=1 or a=3;a>1;b=1 or b=3;");
        x.explore(0);
        due("a find that is not known", x.look(5), 5);
        due("of the view then", x.question(0), 5);
        MarkCabinet y = table(3, 7, 7);
        y.find();
        y.explore(0);
        due("of mode 0", y.question(0), 4);
        y.explore(1);
        due("of mode 1", y.question(0), 0);
    }

    private static void exploringLimits() {
        promise(24);
        int[] single = new int[12];
        for (int f = 0; f < 12; f++) {
            single[f] = 1 << f;
        }
        MarkCabinet x = table(12, single);
        due("explore(0)", x.explore(0), 12);
        due("the empty set is closed; the first pair", x.question(0), 3072);
        for (int i = 1; i <= 60; i++) {
            due("yes " + i, x.yes(), i);
        }
        due("the 61st", x.yes(), -1);
        due("look(6)", x.look(6), 60);
        promise(23);
        due("it is still asked", x.question(1), 4095);
        promise(25);
        int p = x.question(0);
        due("but can be refuted", x.no(p), 13);
        promise(26);
        due("the last one", x.accepted(59, 1), 4095);
        due("behind it", x.accepted(60, 1), -1);
        promise(25);
        MarkCabinet y = table(12, 0, 0, 0, 0, 0, 0, 0, 0, 0, 0, 0, 0, 0, 0, 0, 0);
        due("16 alike", y.explore(0), 16);
        for (int n = 17; n <= 40; n++) {
            due("no " + n, y.no(y.question(0)), n);
        }
        due("it is asked", y.question(0) >= 0 ? 1 : 0, 1);
        due("the 41st", y.no(y.question(0)), -1);
        due("look(5)", y.look(5), 40);
        promise(24);
        due("but can be accepted", y.yes(), 1);
    }

    private static void seriations() {
        MarkCabinet x = table(3, 3, 6, 1, 4);
        promise(27);
        due("rows(0, 15, 7)", x.rows(0, 15, 7), 2);
        due("rows(0, 15, 0)", x.rows(0, 15, 0), 24);
        due("rows(0, 15, 1)", x.rows(0, 15, 1), 12);
        due("rows(0, 0, 7)", x.rows(0, 0, 7), 1);
        due("rows(0, 8, 7)", x.rows(0, 8, 7), 1);
        due("only these finds", x.rows(0, 13, 7), 4);
        due("rows(2, 15, 7)", x.rows(2, 15, 7), -1);
        due("rows(0, 16, 7)", x.rows(0, 16, 7), -1);
        due("rows(0, -1, 7)", x.rows(0, -1, 7), -1);
        due("rows(0, 15, 8)", x.rows(0, 15, 8), -1);
        due("rows(0, 15, -1)", x.rows(0, 15, -1), -1);
        due("three pairs in a ring", table(3, 3, 6, 5, 0).rows(0, 15, 7), 0);
        MarkCabinet all = table(12, new int[16]);
        due("16 finds, all orders", all.rows(0, 65535, 4095), 20922789888000L);
        MarkCabinet one = table(12, 1, 2, 4, 8, 16, 32, 64, 128, 256, 512, 1024, 2048, 0, 0, 0, 0);
        due("marks of one find each", one.rows(0, 65535, 4095), 20922789888000L);
        MarkCabinet pairs = table(8, 1, 1, 2, 2, 4, 4, 8, 8, 16, 16, 32, 32, 64, 64, 128, 128);
        due("8 pairs", pairs.rows(0, 65535, 255), 40320L * 256);
        MarkCabinet chain = table(12, 1, 3, 6, 12, 24, 48, 96, 192, 384, 768, 1536, 3072, 2048);
        due("a chain", chain.rows(0, 8191, 4095), 2);
        promise(28);
        int[] row = {2, 0, 1, 3};
        for (int i = 0; i < 4; i++) {
            due("row 0", x.place(0, 15, 7, 0, i), row[i]);
            due("row 1", x.place(0, 15, 7, 1, i), row[3 - i]);
            due("row 23 of all", x.place(0, 15, 0, 23, i), 3 - i);
        }
        due("place -1", x.place(0, 15, 7, 0, -1), -1);
        due("place 4", x.place(0, 15, 7, 0, 4), -1);
        due("row -1", x.place(0, 15, 7, -1, 0), -1);
        due("row 2", x.place(0, 15, 7, 2, 0), -1);
        due("row 2 to the 32", x.place(0, 15, 7, 1L << 32, 0), -1);
        due("no row", x.place(0, 15, 7, Long.MIN_VALUE, 0), -1);
        due("no row", x.place(0, 15, 7, Long.MAX_VALUE, 0), -1);
        due("no finds", x.place(0, 0, 7, 0, 0), -1);
        due("no mode", x.place(2, 15, 7, 0, 0), -1);
        due("no set", x.place(0, 16, 7, 0, 0), -1);
        due("no set", x.place(0, 15, 8, 0, 0), -1);
        due("the last of 16!", all.place(0, 65535, 4095, 20922789887999L, 0), 15);
        due("the last of 16!", all.place(0, 65535, 4095, 20922789887999L, 15), 0);
        due("behind the last", all.place(0, 65535, 4095, 20922789888000L, 0), -1);
        due("15! rows begin with 0", all.place(0, 65535, 0, 1307674368000L, 0), 1);
        due("15! rows begin with 0", all.place(0, 65535, 0, 1307674367999L, 0), 0);
        due("mates: 1, 0 behind 0, 1", pairs.place(0, 3, 255, 1, 0), 1);
        due("the second row of pairs", pairs.place(0, 65535, 255, 1, 15), 14);
        due("the chain", chain.place(0, 8191, 4095, 0, 12), 12);
        due("the chain backwards", chain.place(0, 8191, 4095, 1, 12), 0);
        x.find();
        promise(27);
        due("ahead of a change", x.rows(0, 15, 7), 2);
        x.tell(0, 2, 0, 0, 1);
        due("behind it", x.rows(0, 15, 7), 4);
        x.tell(0, 2, 0, 1, 1);
        due("and back", x.rows(0, 15, 7), 2);
        due("sure", x.rows(0, 31, 1), 48);
        due("may", x.rows(1, 31, 1), 36);
    }

    private static void crosses() {
        promise(29);
        MarkCabinet x = table(3, 3, 6, 1, 4, 5, 0, 0, 0, 7);
        due("crosses(0, 15, 7, 0)", x.crosses(0, 15, 7, 0), 0);
        due("the first best", x.crosses(0, 15, 7, 10), 2);
        due("crosses(0, 31, 7, 0)", x.crosses(0, 31, 7, 0), 1);
        int[] best = {0, 1, 3, 4, 2};
        for (int i = 0; i < 5; i++) {
            due("best " + i, x.crosses(0, 31, 7, 10 + i), best[i]);
        }
        due("best 5", x.crosses(0, 31, 7, 15), -1);
        due("another what", x.crosses(0, 31, 7, 1), -1);
        due("another what", x.crosses(0, 31, 7, 9), -1);
        due("another what", x.crosses(0, 31, 7, -1), -1);
        due("another what", x.crosses(0, 31, 7, LOW), -1);
        due("8 finds", x.crosses(0, 255, 7, 0), 1);
        due("the last of 8", x.crosses(0, 255, 7, 17), 7);
        due("9 finds", x.crosses(0, 511, 7, 0), -1);
        due("no finds", x.crosses(0, 0, 7, 0), 0);
        due("no finds", x.crosses(0, 0, 7, 10), -1);
        due("one find", x.crosses(0, 256, 7, 10), 8);
        due("no marks", x.crosses(0, 31, 0, 0), 0);
        due("no marks: the first order", x.crosses(0, 30, 0, 10), 1);
        due("no mode", x.crosses(2, 31, 7, 0), -1);
        due("no set", x.crosses(0, 512, 7, 0), -1);
        due("no set", x.crosses(0, -1, 7, 0), -1);
        due("no set", x.crosses(0, 31, 8, 0), -1);
        due("no set", x.crosses(0, 31, -1, 0), -1);
        MarkCabinet y = table(12, 1, 2, 3, 5, 9, 17, 33, 4094);
        due("a star", y.crosses(0, 255, 4095, 0), 4);
        due("ahead of a change", x.crosses(0, 31, 7, 0), 1);
        x.tell(0, 4, 1, -1, 1);
        due("behind it, sure", x.crosses(0, 31, 7, 0), 0);
        due("behind it, may", x.crosses(1, 31, 7, 0), 1);
        due("sure again", x.crosses(0, 31, 7, 0), 0);
    }

    private static void costs() {
        promise(30);
        MarkCabinet x = table(2, 1, 2);
        no("mark -1", x.cost(-1, 1));
        no("mark 12", x.cost(12, 1));
        no("cost 0", x.cost(0, 0));
        no("cost 10", x.cost(0, 10));
        due("1 at first", x.key(3, 0), 1);
        yes("cost 9", x.cost(0, 9));
        due("the other mark is cheaper", x.key(3, 1), 1);
        yes("cost 9", x.cost(1, 9));
        due("WORST", x.key(3, 0), 9);
        due("the least mark", x.key(3, 1), 0);
        yes("a mark that is not cut", x.cost(11, 1));
        yes("cost 1", x.cost(1, 1));
        due("WORST", x.key(3, 0), 1);
        scale(x, "b=0;a=1 or a=3;");
        due("costs stay with other scales", x.key(3, 0), 1);
        x.cost(1, 7);
        due("costs stay with other scales", x.key(3, 0), 7);
    }

    private static void keys() {
        promise(31);
        MarkCabinet x = table(3, 3, 6, 1, 4);
        due("WORST", x.key(15, 0), 2);
        due("asked first", x.key(15, 1), 0);
        due("leaves", x.key(15, 2), 4);
        due("another what", x.key(15, 3), -1);
        due("another what", x.key(15, -1), -1);
        due("no find", x.key(0, 0), -1);
        due("no set", x.key(16, 0), -1);
        due("no set", x.key(-1, 0), -1);
        due("one find", x.key(1, 0), 0);
        due("one find, none asked", x.key(1, 1), -1);
        due("one find, one leaf", x.key(1, 2), 1);
        x.cost(1, 5);
        due("WORST", x.key(15, 0), 6);
        x.find();
        due("a find not known", x.key(31, 0), 0);
        due("a find not known", x.key(31, 1), -1);
        due("a find not known", x.key(31, 2), 1);
        // Mark 0 is not known of find 0 alone: it can be asked where that one has gone.
        x.tell(0, 4, 1, 0, 1);
        x.tell(0, 4, 0, -1, 1);
        due("mark 2 is known of all", x.key(31, 1), 2);
        due("WORST", x.key(31, 0), 6);
        due("leaves", x.key(31, 2), 3);
        int[] rows = new int[16];
        for (int f = 0; f < 16; f++) {
            rows[f] = f;
        }
        MarkCabinet y = table(12, rows);
        due("16 finds by 4 marks", y.key(65535, 0), 4);
        due("16 leaves", y.key(65535, 2), 16);
        for (int i = 0; i < 12; i++) {
            y.cost(i, 9);
        }
        due("dear ones", y.key(65535, 0), 36);
        MarkCabinet z = table(12, 1, 2, 4, 8, 16, 32, 64, 128, 256, 512, 1024, 2048, 0);
        for (int i = 0; i < 12; i++) {
            z.cost(i, 9);
        }
        due("one by one", z.key(8191, 0), 108);
        due("one by one, leaves", z.key(8191, 2), 13);
        due("twins", table(2, 1, 1, 0, 0).key(15, 2), 2);
    }

    private static void paths() {
        promise(32);
        MarkCabinet x = table(3, 3, 6, 1, 4);
        x.cost(1, 5);
        due("asked", x.path(15, 0, 0), 2);
        due("spent", x.path(15, 0, 1), 6);
        due("left", x.path(15, 0, 2), 1);
        due("first", x.path(15, 0, 10), 0);
        due("second", x.path(15, 0, 11), 1);
        due("third", x.path(15, 0, 12), -1);
        due("another find", x.path(15, 3, 2), 8);
        due("another what", x.path(15, 0, 3), -1);
        due("another what", x.path(15, 0, 9), -1);
        due("another what", x.path(15, 0, -1), -1);
        due("another what", x.path(15, 0, LOW), -1);
        due("another what", x.path(15, 0, HIGH), -1);
        due("not of the set", x.path(7, 3, 0), -1);
        due("no such find", x.path(15, 4, 0), -1);
        due("no such find", x.path(15, -1, 0), -1);
        due("no such set", x.path(16, 0, 0), -1);
        due("no such set", x.path(-1, 0, 0), -1);
        due("no set", x.path(0, 0, 0), -1);
        MarkCabinet y = table(2, 1, 1, 0, 0);
        due("twins are left", y.path(15, 3, 2), 12);
        MarkCabinet z = table(12, 1, 2, 4, 8, 16, 32, 64, 128, 256, 512, 1024, 2048, 0);
        due("12 marks are asked", z.path(8191, 12, 0), 12);
        due("the least first", z.path(8191, 12, 10), 0);
        due("the last one", z.path(8191, 12, 21), 11);
        due("behind it", z.path(8191, 12, 22), -1);
    }

    private static void quarrels() {
        promise(33);
        MarkCabinet x = new MarkCabinet();
        x.find();
        x.find();
        x.tell(0, 0, 0, 0, 0);
        x.tell(1, 0, 0, 999, 0);
        x.tell(0, 0, 5, 4, 1);
        x.tell(1, 0, 5, 1, 2);
        x.tell(1, 1, 2, 3, 3);
        x.tell(0, 1, 2, 2, 999);
        due("on day 0", x.quarrel(0, 0, 0), 1);
        due("on day 1", x.quarrel(1, 0, 0), 1);
        due("on day 2", x.quarrel(2, 0, 0), 2);
        due("on day 999", x.quarrel(999, 0, 0), 3);
        due("the first", x.quarrel(999, 0, 10), 0);
        due("the second", x.quarrel(999, 0, 11), 5);
        due("the third", x.quarrel(999, 0, 12), 8);
        due("the fourth", x.quarrel(999, 0, 13), -1);
        due("by more than 1", x.quarrel(999, 1, 0), 2);
        due("by more than 2", x.quarrel(999, 2, 0), 2);
        due("by more than 3", x.quarrel(999, 3, 0), 1);
        due("by more than 998", x.quarrel(999, 998, 0), 1);
        due("by more than 999", x.quarrel(999, 999, 0), 0);
        due("day -1", x.quarrel(-1, 0, 0), -1);
        due("day 1000", x.quarrel(1000, 0, 0), -1);
        due("by -1", x.quarrel(0, -1, 0), -1);
        due("by 1000", x.quarrel(0, 1000, 0), -1);
        due("another what", x.quarrel(999, 0, 1), -1);
        due("another what", x.quarrel(999, 0, 9), -1);
        due("another what", x.quarrel(999, 0, -1), -1);
        due("another what", x.quarrel(999, 0, LOW), -1);
        x.tell(0, 0, 5, -1, 999);
        due("none any more", x.quarrel(999, 0, 0), 2);
        x.view(1, 0);
        due("whatever the view", x.quarrel(999, 0, 0), 2);
    }

    private static void changes() {
        promise(34);
        MarkCabinet x = new MarkCabinet();
        x.find();
        x.find();
        scale(x, times("a>1;", 11) + "b=0;");
        x.tell(0, 0, 0, 2, 1);
        x.tell(0, 1, 1, 0, 2);
        x.tell(1, 1, 1, 1, 3);
        x.tell(0, 0, 0, 3, 4);
        due("to day 1", x.changed(0, 0, 1, 0), 11);
        due("the first", x.changed(0, 0, 1, 10), 0);
        due("the eleventh", x.changed(0, 0, 1, 20), 10);
        due("the twelfth", x.changed(0, 0, 1, 21), -1);
        due("to day 2", x.changed(0, 1, 2, 0), 1);
        due("find 1, mark 11", x.changed(0, 1, 2, 10), 23);
        due("backwards", x.changed(0, 2, 0, 0), 12);
        due("backwards, the last", x.changed(0, 2, 0, 21), 23);
        due("told anew, but the marks are the same", x.changed(0, 3, 4, 0), 0);
        due("keeper 0 on day 3", x.changed(0, 2, 3, 0), 0);
        due("keeper 1 on day 3", x.changed(1, 2, 3, 10), 23);
        due("both on day 3", x.changed(2, 2, 3, 10), 23);
        due("0 to 999", x.changed(2, 0, 999, 0), 11);
        due("the same day", x.changed(0, 5, 5, 0), 0);
        due("keeper -1", x.changed(-1, 0, 1, 0), -1);
        due("keeper 3", x.changed(3, 0, 1, 0), -1);
        due("from -1", x.changed(0, -1, 1, 0), -1);
        due("from 1000", x.changed(0, 1000, 1, 0), -1);
        due("to -1", x.changed(0, 0, -1, 0), -1);
        due("to 1000", x.changed(0, 0, 1000, 0), -1);
        due("another what", x.changed(0, 0, 1, 1), -1);
        due("another what", x.changed(0, 0, 1, 9), -1);
        due("another what", x.changed(0, 0, 1, -1), -1);
        due("another what", x.changed(0, 0, 1, LOW), -1);
        scale(x, "a>2;");
        due("by scales as they are", x.changed(0, 3, 4, 0), 1);
        x.view(1, 0);
        due("whatever the view", x.changed(0, 3, 4, 10), 0);
        for (int m = 0; m < 6; m++) {
            x.tell(0, 1, m, 3, 9);
            x.tell(0, 1, m, 2, 10);
        }
        due("every measure is told anew", x.changed(0, 9, 10, 0), 1);
        due("every measure is told anew", x.changed(0, 9, 10, 10), 12);
    }

    /** No call throws, whatever its arguments are and whatever came ahead of it. */
    private static void anyArguments() {
        promise(0);
        int[] odd = {LOW, LOW + 1, -1000, -2, -1, 0, 1, 2, 9, 10, 11, 15, 16, 31, 32, 63, 255, 999, 1000, 4095, 4096, 65535, 65536, HIGH - 1, HIGH};
        MarkCabinet[] cabinets = {new MarkCabinet(), table(12, 1, 2, 3), table(0, 1, 2), table(12, new int[16])};
        for (MarkCabinet x : cabinets) {
            for (int a : odd) {
                x.find();
                x.end(a);
                x.fault(a);
                x.look(a);
                x.concepts(a);
                x.rules(a);
                x.question(a);
                x.no(a);
                for (int b : odd) {
                    x.view(a, b);
                    x.value(a, b);
                    x.mark(a, b);
                    x.row(a, b);
                    x.have(a, b);
                    x.close(a, b);
                    x.concept(a, b);
                    x.number(a, b);
                    x.accepted(a, b);
                    x.cost(a, b);
                    x.key(a, b);
                    for (int c : odd) {
                        x.tell(a & 1, b, c, a, b);
                        x.rule(a, b, c);
                        x.follow(a, b, c);
                        x.against(a, b, c);
                        x.rows(a, b, c);
                        x.place(a, b, c, a, b);
                        x.place(0, b, c, c * 1000000007L, a);
                        x.crosses(a, b, c, 10);
                        x.path(a, b, c);
                        x.quarrel(a, b, c);
                        x.changed(a, b, c, 0);
                        x.changed(0, b, c, a);
                    }
                }
                x.explore(a);
                x.yes();
                x.feed(a, a, a, a, a);
                x.scales();
            }
        }
        due("nothing was thrown", 0, 0);
    }
}
