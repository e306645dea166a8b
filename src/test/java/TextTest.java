/** Promises 1 to 4: a new object, feed, program with its FAULTS, fault. */
public final class TextTest {
    private static final String TWELVE = "c99;c0;c0;c0;c0;c0;i;i;i;i;i;i;";

    public static void main(String[] args) {
        newObject();
        feeding();
        readings();
        cannotStand();
        badNumbers();
        tooMany();
        badSorts();
        leastOfSeveral();
        faultLeavesAll();
        programStartsAnew();
        Check.finish();
    }

    private static void newObject() {
        EarlyBinder x = new EarlyBinder();
        for (int what = 0; what <= 15; what++) {
            Check.due("new told(" + what + ")", x.told(what), 0);
        }
        Check.due("new fault()", x.fault(), Check.NONE);
        Check.due("new type(0, 0)", x.type(0, 0), Check.UNKNOWN);
        Check.due("new body(0, 0)", x.body(0, 0), Check.UNKNOWN);
        Check.due("new call(0, 0)", x.call(0, 0), Check.UNKNOWN);
        Check.due("new goBack(0)", x.goBack(0), Check.NOT);
        Check.due("new goBack(1)", x.goBack(1), Check.NOT);
        Check.due("new undo()", x.undo(), Check.NOT);
        Check.due("new journal(0, 0)", x.journal(0, 0), Check.NONE);
        Check.due("new program()", x.program(), 0);
    }

    private static void feeding() {
        EarlyBinder x = new EarlyBinder();
        Check.due("feed(-1)", x.feed(-1), Check.OUTSIDE);
        Check.due("feed(256)", x.feed(256), Check.OUTSIDE);
        Check.due("feed(least)", x.feed(Integer.MIN_VALUE), Check.OUTSIDE);
        Check.due("feed(0)", x.feed(0), 1);
        Check.due("feed(255)", x.feed(255), 2);
        for (int i = 3; i <= 240; i++) {
            Check.due("feed to " + i, x.feed(' '), i);
        }
        Check.due("feed(241st)", x.feed(' '), Check.FULL);
        Check.due("feed(256) when full", x.feed(256), Check.OUTSIDE);
        Check.due("told(4) when full", x.told(4), 240);
        Check.due("program() of letter 0", x.program(), -11);
        Check.due("its fault()", x.fault(), 0);
        Check.due("told(4) after a fault", x.told(4), 0);
        Check.due("feed after a fault", x.feed('i'), 1);
    }

    /** What the text's program() and fault() answer, on a new object. */
    private static void read(String text, int answer, int fault) {
        EarlyBinder x = new EarlyBinder();
        Check.feed(x, text);
        Check.due("program() of '" + text + "'", x.program(), answer);
        Check.due("fault() of '" + text + "'", x.fault(), fault);
        Check.due("told(4) after '" + text + "'", x.told(4), 0);
        if (answer < 0) {
            Check.due("told(0) after '" + text + "'", x.told(0), 0);
        }
    }

    private static void good(String text, int types) {
        read(text, types, Check.NONE);
    }

    private static void readings() {
        good("", 0);
        good("     ", 0);
        good("i;", 1);
        good(" i ; ", 1);
        good("c99;", 1);
        good("  c  99  ;  ", 1);
        good("i;i;c99 , 0 , 1 ;", 3);
        good("i;i;c99,1,0;c02,00,01;i0,1;i01 , 0;", 6);
        good("c99;m0 0;m0 5;n0 0;v0 0 5;", 1);
        good("c99;c0;m1 0;s0 5;", 2);
        good("c99;m00 05;n00 00;v00 00 05;", 1);
        good("i;m0 0;v0 0 0;", 1);
        good("c99;m0 0;c0;n0 1;v0 1 0;", 2);
        good(TWELVE, 12);
        StringBuilder blanks = new StringBuilder("i;");
        while (blanks.length() < 240) {
            blanks.append(' ');
        }
        good(blanks.toString(), 1);
    }

    private static void cannotStand() {
        read("x", -11, 0);
        read("C99;", -11, 0);
        read("  ;", -11, 2);
        read("5", -11, 0);
        read("123", -11, 0);
        read(",", -11, 0);
        read("\t", -11, 0);
        read("c", -11, 1);
        read("c  ", -11, 3);
        read("c99", -11, 3);
        read("c99   ", -11, 6);
        read("c99,", -11, 4);
        read("c;", -11, 1);
        read("c,", -11, 1);
        read("c99 99;", -11, 4);
        read("c99 100;", -11, 4);
        read("c99;;", -11, 4);
        read("i,", -11, 1);
        read("i;i0,;", -11, 5);
        read("i;i0 0;", -11, 5);
        read("ii;", -11, 1);
        read("i;i;i;i0,1,2;", -11, 10);
        read("i;i;i;i0,1 ,2;", -11, 11);
        read("i;i;i;c99,0,1,2;", -11, 13);
        read("i;i;c99,0,1,x", -11, 11);
        read("i;m00;", -11, 5);
        read("i;m0;", -11, 4);
        read("i;m0,0;", -11, 4);
        read("i;m0 0 0;", -11, 7);
        read("i;m0 0", -11, 6);
        read("i;m0 0;v0 0;", -11, 11);
        read("i;m0 0;v0 0 0 0;", -11, 14);
        read("i;m0 0;v;", -11, 8);
        read("c99;m0 0;n0;", -11, 11);
        read("c99;m0 0;n0 0 0;", -11, 14);
        read("c99;c0;m1 0;s0;", -11, 14);
        read("c99;c0;m1 0;s0 0 0;", -11, 17);
        read("i;" + (char) 233, -11, 2);
        read("i" + (char) 0 + ";", -11, 1);
    }

    private static void badNumbers() {
        read("c0;", -12, 1);
        read("c 98;", -12, 2);
        read("c099;", -12, 1);
        read("c100;", -12, 1);
        read("c9 9;", -12, 1);
        read("c99;c1;", -12, 5);
        read("c99;c 000;", -12, 6);
        read("i0;", -12, 1);
        read("i99;", -12, 1);
        read("i;i0,1;", -12, 5);
        read("c99,0;", -12, 4);
        read("c99,99;", -12, 4);
        read("m0 0;", -12, 1);
        read("i;m1 0;", -12, 3);
        read("i;m0 6;", -12, 5);
        read("i;m0 10;", -12, 5);
        read("i;m0 000;", -12, 5);
        read("i;n0 0;", -12, 3);
        read("i;m0 0;n1 0;", -12, 8);
        read("c99;m0 0;n0 1;", -12, 12);
        read("c99;m0 0;v0 1 0;", -12, 12);
        read("c99;m0 0;v0 0 6;", -12, 14);
        read("c99;c0;m1 0;s0 6;", -12, 15);
        read("c99;c0;m1 0;s1 0;", -12, 13);
        read("c99;m0 0;v0 12345678901234567890 0;", -12, 12);
        read("c99;m0 0;n0 1;c0;", -12, 12);
        read("c99;n0 0;m0 0;", -12, 5);
        read("c4294967296;", -12, 1);
    }

    private static void tooMany() {
        read(TWELVE + "i;", -13, TWELVE.length());
        read(TWELVE + " c99;", -13, TWELVE.length() + 1);
        read(TWELVE + "c", -13, TWELVE.length());
        String bodies = "c99;c99;c99;c99;";
        StringBuilder twenty = new StringBuilder(bodies);
        for (int b = 0; b < 20; b++) {
            twenty.append('m').append(b / 6).append(' ').append(b % 6).append(';');
        }
        good(twenty.toString(), 4);
        read(twenty + "m3 2;", -13, twenty.length());
        read(twenty + "m", -13, twenty.length());
        StringBuilder steps = new StringBuilder("c99;c0;m1 0;");
        for (int s = 0; s < 24; s++) {
            steps.append(s % 3 == 0 ? "n0 0;" : s % 3 == 1 ? "v0 0 0;" : "s0 0;");
        }
        good(steps.toString(), 2);
        read(steps + "n0 0;", -13, steps.length());
        read(steps + "v0 0 0;", -13, steps.length());
        read(steps + " s", -13, steps.length() + 1);
        EarlyBinder x = Check.told(steps.toString());
        Check.due("24 steps", x.told(2), 24);
        Check.due("calls among them", x.told(3), 8);
        x = Check.told(twenty.toString());
        Check.due("20 bodies", x.told(1), 20);
    }

    private static void badSorts() {
        read("i;c0;", -14, 3);
        read("i;c 0;", -14, 4);
        read("c99;c99,0;", -14, 8);
        read("c99;i0;", -14, 5);
        read("i;c99;i0,1;", -14, 9);
        read("i;c99,0,0;", -14, 8);
        read("i;c99,0 , 00;", -14, 10);
        read("i;i0,0;", -14, 5);
        read("i;m0 0;m0 0;", -14, 10);
        read("i;m0 0;m0  00;", -14, 11);
        read("i;m0 0;n0 0;", -14, 10);
        read("i;m0 0;s0 0;", -14, 8);
        read("c99;m0 0;s0 0;", -14, 10);
        read("c99;m0 0;s 0", -14, 11);
        read("i;i0;m1 0;s0 0;", -14, 11);
    }

    private static void leastOfSeveral() {
        // At one letter: a number of three figures that cannot stand there; a message out of bounds.
        read("i;i;i;i0,1,222;", -11, 10);
        read("c99;m0 0;m0 6;", -12, 12);
        read(TWELVE + "x", -11, TWELVE.length());
        read(TWELVE + "13", -11, TWELVE.length());
        // The first letter counts, whatever comes behind it.
        read("i;c0;x", -14, 3);
        read("c0;x", -12, 1);
        read("i;c0,9", -14, 3);
        read(TWELVE + "c77;", -13, TWELVE.length());
        read("c99;m0 0;s0 6;", -14, 10);
    }

    private static void faultLeavesAll() {
        EarlyBinder x = Check.told("c99;c0;m0 0;m1 0;n0 1;v0 0 0;");
        x.load(0);
        x.root(0, true);
        x.keep(1);
        x.bindAll();
        String ahead = Check.all(x);
        Check.feed(x, "i;c0;");
        Check.due("program() with a fault", x.program(), -14);
        Check.due("fault()", x.fault(), 3);
        Check.same("after a fault", Check.all(x).replace("f3", "f-1"), ahead);
        Check.due("undo() after a fault", x.undo(), 0);
        Check.due("told(11) after it", x.told(11), 0);
        Check.due("goBack(1) after a fault", x.goBack(1), 1);
        Check.due("fault() stays", x.fault(), 3);
    }

    private static void programStartsAnew() {
        EarlyBinder x = Check.told("c99;c0;m0 0;m1 0;n0 1;v0 0 0;");
        x.load(0);
        x.root(0, true);
        x.keep(0);
        x.keep(1);
        x.bindAll();
        x.load(1);
        Check.feed(x, "x");
        x.program();
        Check.feed(x, "c99;c0;m0 0;m1 0;n0 1;v0 0 0;");
        Check.due("program() again", x.program(), 2);
        Check.due("fault() of a good one", x.fault(), Check.NONE);
        Check.same("told again", Check.all(x), Check.all(Check.told("c99;c0;m0 0;m1 0;n0 1;v0 0 0;")));
        Check.due("undo() after program()", x.undo(), Check.NOT);
        Check.due("goBack(0) after program()", x.goBack(0), Check.NOT);
        Check.due("goBack(1) after program()", x.goBack(1), Check.NOT);
        x.load(1);
        x.root(0, true);
        Check.due("reached before", x.told(8), 3);
        Check.due("could before", x.told(10), 3);
        Check.feed(x, "c99;c99;m0 0;m1 0;");
        x.program();
        x.load(0);
        x.load(1);
        x.root(0, true);
        Check.due("reached in another program", x.told(8), 1);
        Check.due("could in another program", x.told(10), 1);
        Check.due("program() of no text", x.program(), 0);
        Check.due("told(0) of no text", x.told(0), 0);
    }
}
