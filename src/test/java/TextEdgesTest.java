/** Section 1 and promises 1 to 4, sentence by sentence: what is just inside a bound, and what is just beyond it. */
public final class TextEdgesTest {
    private static final String TWELVE = "c99;c0;c1;i;i;i;i;i;i;i;i;i;";

    public static void main(String[] args) {
        noTypes();
        letterBounds();
        lettersFull();
        twelveTypes();
        twentyBodies();
        twentyFourSteps();
        classAbove();
        interfacesOfClass();
        interfacesAboveInterface();
        messages();
        eachBodyOnce();
        makingClasses();
        callingTypes();
        callingAbove();
        figures();
        words();
        blanks();
        sideBySide();
        theEnd();
        firstLetterThenLeast();
        emptyText();
        textIsEmptyThen();
        faultsLetter();
        Check.finish();
    }

    /** program() and fault() on a new object; with a FAULT nothing is told by it. */
    private static void read(String text, int answer, int fault) {
        EarlyBinder x = new EarlyBinder();
        Check.feed(x, text);
        Check.due("program() of '" + text + "'", x.program(), answer);
        Check.due("fault() of '" + text + "'", x.fault(), fault);
        Check.due("TYPES of '" + text + "'", x.told(0), Math.max(0, answer));
    }

    private static void stands(String text, int types) {
        read(text, types, Check.NONE);
    }

    private static void noTypes() {
        Check.of("1 A new object: No TYPES");
        EarlyBinder x = new EarlyBinder();
        for (int what = 0; what <= 15; what++) {
            Check.due("told(" + what + ")", x.told(what), 0);
        }
        Check.due("type(0, 0)", x.type(0, 0), Check.UNKNOWN);
        Check.due("body(0, 0)", x.body(0, 0), Check.UNKNOWN);
        Check.due("call(0, 0)", x.call(0, 0), Check.UNKNOWN);
        Check.due("load(0)", x.load(0), Check.UNKNOWN);
        Check.due("root(0, true)", x.root(0, true), Check.UNKNOWN);
        Check.due("bind(0)", x.bind(0), Check.UNKNOWN);
        Check.due("drift(1, 1)", x.drift(1, 1), Check.NOT);
        Check.due("undo()", x.undo(), Check.NOT);
        Check.due("goBack(0)", x.goBack(0), Check.NOT);
        Check.due("goBack(1)", x.goBack(1), Check.NOT);
        Check.due("journal(0, 0)", x.journal(0, 0), Check.NONE);
        Check.due("fault()", x.fault(), Check.NONE);
        Check.due("bindAll()", x.bindAll(), 0);
        Check.due("keep(0)", x.keep(0), 1);
        Check.due("goBack(0), kept", x.goBack(0), 1);
    }

    private static void letterBounds() {
        Check.of("2 feed: a number 0 .. 255; OUTSIDE");
        EarlyBinder x = new EarlyBinder();
        Check.due("feed(-1)", x.feed(-1), Check.OUTSIDE);
        Check.due("feed(256)", x.feed(256), Check.OUTSIDE);
        Check.due("feed(least)", x.feed(Integer.MIN_VALUE), Check.OUTSIDE);
        Check.due("feed(greatest)", x.feed(Integer.MAX_VALUE), Check.OUTSIDE);
        Check.due("feed('c' + 256)", x.feed('c' + 256), Check.OUTSIDE);
        Check.due("told(4), all refused", x.told(4), 0);
        Check.due("feed(0)", x.feed(0), 1);
        Check.due("feed(255)", x.feed(255), 2);
        Check.due("told(4)", x.told(4), 2);
    }

    private static void lettersFull() {
        Check.of("2 feed: FULL (240)");
        EarlyBinder x = new EarlyBinder();
        for (int i = 1; i <= 238; i++) {
            Check.due("letter " + i, x.feed(' '), i);
        }
        Check.due("letter 239", x.feed('i'), 239);
        Check.due("letter 240", x.feed(';'), 240);
        Check.due("letter 241", x.feed('x'), Check.FULL);
        Check.due("letter 241, OUTSIDE first", x.feed(256), Check.OUTSIDE);
        Check.due("told(4)", x.told(4), 240);
        Check.due("program(): all 240 and no more", x.program(), 1);
        Check.due("fault()", x.fault(), Check.NONE);
        Check.due("there is room again", x.feed('i'), 1);
        read(" ".repeat(239) + "i", -11, 240);
        read(" ".repeat(239) + "x", -11, 239);
    }

    private static void twelveTypes() {
        Check.of("1 THE PROGRAM: 12 TYPES at most; 3 a TYPE too many (at the word)");
        stands(TWELVE, 12);
        stands("i;".repeat(12), 12);
        stands("c99;".repeat(12), 12);
        read(TWELVE + "i;", -13, TWELVE.length());
        read(TWELVE + "c99;", -13, TWELVE.length());
        read(TWELVE + "  i;", -13, TWELVE.length() + 2);
        read(TWELVE + "i", -13, TWELVE.length());
        read(TWELVE + "cx", -13, TWELVE.length());
        read("i;".repeat(13), -13, 24);
        stands(TWELVE + "m11 0;v0 11 0;", 12);
    }

    private static void twentyBodies() {
        Check.of("1 THE PROGRAM: 20 BODIES at most; 3 a BODY too many (at the word)");
        StringBuilder text = new StringBuilder("i;i;i;i;");
        for (int b = 0; b < 20; b++) {
            text.append('m').append(b % 4).append(' ').append(b / 4).append(';');
        }
        stands(text.toString(), 4);
        Check.due("BODIES", Check.told(text.toString()).told(1), 20);
        read(text + "m0 5;", -13, text.length());
        read(text + " m", -13, text.length() + 1);
        read(text + "m0 0;", -13, text.length());
        stands(text + "i;v19 0 0;", 5);
    }

    private static void twentyFourSteps() {
        Check.of("1 THE PROGRAM: 24 STEPS at most; 3 a STEP too many (at the word)");
        String[] kinds = {"n0 0;", "v0 0 0;", "s0 0;"};
        for (String kind : kinds) {
            String text = "c99;c0;m1 0;" + kind.repeat(24);
            stands(text, 2);
            Check.due("STEPS", Check.told(text).told(2), 24);
            for (String more : kinds) {
                read(text + more, -13, text.length());
                read(text + ' ' + more.charAt(0), -13, text.length() + 1);
            }
            stands(text + "i;m2 0;", 3);
        }
    }

    private static void classAbove() {
        Check.of("1 'c' P: below CLASS P, or 99: below none");
        stands("c99;c0;", 2);
        stands("c99;c99;c1;", 3);
        stands("i;i;i;i;i;i;i;i;i;i;c99;c10;", 12);
        Check.due("above, 99", Check.told("c99;").above(0), Check.NONE);
        Check.due("above, two figures", Check.told("i;i;i;i;i;i;i;i;i;i;c99;c10;").above(11), 10);
        Check.of("1 FAULTS: 2 out of its bounds, a TYPE that there is not (at its first)");
        read("c0;", -12, 1);
        read("c98;", -12, 1);
        read("c99;c1;", -12, 5);
        read("c99;c 2;", -12, 6);
        read("c99;c98;", -12, 5);
        read("c1;c99;", -12, 1);
        Check.of("1 FAULTS: 4 a TYPE of the wrong sort (at it)");
        read("i;c0;", -14, 3);
        read("i;c  00;", -14, 5);
        read("c99;i;c1;", -14, 7);
    }

    private static void interfacesOfClass() {
        Check.of("1 'c': INTERFACES I told ahead, 2 at most, unlike");
        stands("i;c99,0;", 2);
        stands("i;i;c99,0,1;", 3);
        stands("i;i;c99,1,0;", 3);
        stands("i;c99,0;c1,0;", 3);
        read("i;i;i;c99,0,1,2;", -11, 13);
        read("i;i;i;c99,0,1 , 2;", -11, 14);
        read("i;i;c99,0,1,", -11, 11);
        read("i;i;c99,0,1,0;", -11, 11);
        read("c99,;", -11, 4);
        read("i;c99,0,;", -11, 8);
        read("c99,0;", -12, 4);
        read("c99,1;i;", -12, 4);
        read("i;c99,1;", -12, 6);
        read("i;c99,0,2;", -12, 8);
        read("i;c99,99;", -12, 6);
        read("c99;c99,0;", -14, 8);
        read("i;c99;c99,0,1;", -14, 12);
        read("i;c99,0,0;", -14, 8);
        read("i;c99,0, 00;", -14, 9);
    }

    private static void interfacesAboveInterface() {
        Check.of("1 'i': below INTERFACES J told ahead, 2 at most, unlike");
        stands("i;", 1);
        stands("i;i0;", 2);
        stands("i;i;i0,1;", 3);
        stands("i;i0;i1,0;", 3);
        read("i;i;i;i0,1,2;", -11, 10);
        read("i;i;i0,1,", -11, 8);
        read("i;i;i0,1,1;", -11, 8);
        read("i,0;", -11, 1);
        read("i;i0,;", -11, 5);
        read("i;i0 0;", -11, 5);
        read("i0;", -12, 1);
        read("i1;i;", -12, 1);
        read("i;i0,1;", -12, 5);
        read("i99;", -12, 1);
        read("c99;i0;", -14, 5);
        read("i;c99;i0,1;", -14, 9);
        read("i;i0,0;", -14, 5);
        read("i;i0,00;", -14, 5);
    }

    private static void messages() {
        Check.of("1 MESSAGE M, 0 .. 5; 2 out of its bounds");
        String[] ahead = {"c99;c0;m", "c99;c0;m1 0;v0 1 ", "c99;c0;m1 0;s0 "};
        for (String text : ahead) {
            int place = text.length() + (text.endsWith("m") ? 2 : 0);
            String head = text.endsWith("m") ? text + "1 " : text;
            stands(head + "0;", 2);
            stands(head + "5;", 2);
            stands(head + "05;", 2);
            read(head + "6;", -12, place);
            read(head + "9;", -12, place);
            read(head + "10;", -12, place);
            read(head + "99;", -12, place);
            read(head + "005;", -12, place);
            read(head + ";", -11, place);
        }
    }

    private static void eachBodyOnce() {
        Check.of("1 'm': each T, M once; 4 a BODY told already (at the M)");
        stands("i;i;m0 0;m0 1;m1 0;m1 1;", 2);
        read("i;m0 0;m0 0;", -14, 10);
        read("i;m0 5;m0  05;", -14, 11);
        read("i;i;m0 0;m1 0;m0 1;m1 0", -14, 22);
        Check.of("1 FAULTS: 2 a TYPE that there is not: of a BODY");
        read("m0 0;", -12, 1);
        read("i;m1 0;", -12, 3);
        read("i;m 99 0;", -12, 4);
        read("m0 0;i;", -12, 1);
    }

    private static void makingClasses() {
        Check.of("1 'n' B X: it makes CLASS X");
        stands("c99;m0 0;n0 0;", 1);
        stands("i;c99;m0 0;n0 1;", 2);
        read("c99;m0 0;n1 0;", -12, 10);
        read("c99;n0 0;m0 0;", -12, 5);
        read("c99;m0 0;n0 1;", -12, 12);
        read("c99;m0 0;n0 99;", -12, 12);
        read("i;m0 0;n0 0;", -14, 10);
        read("i;m0 0;n0  00;", -14, 11);
        read("c99;m0 0;n0 0 0;", -11, 14);
        read("c99;m0 0;n0;", -11, 11);
    }

    private static void callingTypes() {
        Check.of("1 'v' B X N: it calls MESSAGE N of TYPE X");
        stands("c99;m0 0;v0 0 0;", 1);
        stands("i;m0 0;v0 0 5;", 1);
        read("i;m0 0;v1 0 0;", -12, 8);
        read("i;v0 0 0;m0 0;", -12, 3);
        read("i;m0 0;v0 1 0;", -12, 10);
        read("i;m0 0;v0 99 0;", -12, 10);
        read("i;m0 0;v0 0;", -11, 11);
        read("i;m0 0;v0 0 0 0;", -11, 14);
        Check.of("1 such STEPS are CALLS, numbered by themselves");
        EarlyBinder x = Check.told("c99;c0;m1 0;n0 0;v0 0 3;s0 0;n0 1;v0 1 4;");
        Check.due("CALLS", x.told(3), 2);
        Check.due("MESSAGE of CALL 0", x.call(0, 2), 3);
        Check.due("MESSAGE of CALL 1", x.call(1, 2), 4);
        Check.due("CALL 2", x.call(2, 2), Check.UNKNOWN);
    }

    private static void callingAbove() {
        Check.of("1 's' B N: its TYPE is a CLASS below one; 4 for 's' a TYPE that is no CLASS below one (at the B)");
        stands("c99;c0;m1 0;s0 0;", 2);
        read("c99;m0 0;s0 0;", -14, 10);
        read("i;c99,0;m1 0;s0 0;", -14, 14);
        read("i;m0 0;s0 0;", -14, 8);
        read("i;i0;m1 0;s  0 0;", -14, 13);
        read("c99;c0;m0 0;m1 0;s0 0;", -14, 18);
        read("c99;m0 0;s0 6;", -14, 10);
        read("c99;m0 0;s0", -14, 10);
        read("c99;c0;m1 0;s1 0;", -12, 13);
        read("c99;m0 0;s1 0;", -12, 10);
        read("c99;c0;m1 0;s0 0 0;", -11, 17);
    }

    private static void figures() {
        Check.of("1 NUMBERS have one or two figures; 2 a NUMBER of three figures or more (at its first)");
        stands("c99;c0;m1 0;n0 0;", 2);
        stands("c99;c00;m01 00;n00 00;v00 00 00;s00 00;", 2);
        read("c100;", -12, 1);
        read("c099;", -12, 1);
        read("c000;", -12, 1);
        read("c99;c 000;", -12, 6);
        read("i;i000;", -12, 3);
        read("i;c99,000;", -12, 6);
        read("i;m000 0;", -12, 3);
        read("i;m0 000;", -12, 5);
        read("c99;m0 0;n000 0;", -12, 10);
        read("c99;m0 0;n0 000;", -12, 12);
        read("c99;m0 0;v0 000 0;", -12, 12);
        read("c99;m0 0;v0 0 000;", -12, 14);
        read("c99;c0;m1 0;s000 0;", -12, 13);
        read("c99;c0;m1 0;s0 000;", -12, 15);
        // Of so many figures that the number wraps round to 0, or to 99, in 32 or 64 bits.
        read("c99;c4294967296;", -12, 5);
        read("c4294967395;", -12, 1);
        read("c18446744073709551616;", -12, 1);
        read("c" + "9".repeat(239), -12, 1);
        read("c" + "0".repeat(239), -12, 1);
    }

    private static void words() {
        Check.of("1 a word is one letter; 1 it cannot stand there (a letter that is no word)");
        read("x", -11, 0);
        read("C99;", -11, 0);
        read("cc99;", -11, 1);
        read("ii;", -11, 1);
        read(";", -11, 0);
        read(",", -11, 0);
        read("0", -11, 0);
        read("i;;", -11, 2);
        read("i;0;", -11, 2);
        read("i;m;", -11, 3);
        read("i;m0,0;", -11, 4);
        read("i;m0 0,", -11, 6);
        read("c;", -11, 1);
        read("c-1;", -11, 1);
        for (int letter = 0; letter <= 255; letter++) {
            EarlyBinder x = new EarlyBinder();
            x.feed(letter);
            boolean isWord = "cimnvs".indexOf(letter) >= 0;
            Check.due("letter " + letter + " alone", x.program(), letter == ' ' ? 0 : -11);
            Check.due("its place", x.fault(), letter == ' ' ? Check.NONE : isWord ? 1 : 0);
        }
    }

    private static void blanks() {
        Check.of("1 blanks (32) may stand anywhere but within NUMBERS");
        stands("  i  ;  c  99  ,  0  ;  c  1  ;  m  2  0  ;  n  0  1  ;  v  0  0  5  ;  s  0  0  ;  ", 3);
        stands("i;c99,0;c1;m2 0;n0 1;v0 0 5;s0 0;", 3);
        read("c9 9;", -12, 1);
        read("c99;c0 0;", -11, 7);
        for (int letter = 0; letter <= 255; letter++) {
            EarlyBinder x = new EarlyBinder();
            Check.feed(x, "i");
            x.feed(letter);
            Check.feed(x, ";");
            boolean isFigure = letter >= '0' && letter <= '9';
            int due = letter == ' ' ? 1 : isFigure ? -12 : -11;
            Check.due("letter " + letter + " behind a word", x.program(), letter == ';' ? -11 : due);
            Check.due("its place", x.fault(), letter == ' ' ? Check.NONE : letter == ';' ? 2 : 1);
        }
    }

    private static void sideBySide() {
        Check.of("1 two NUMBERS side by side need one");
        stands("i;m0 0;v0 0 0;", 1);
        read("i;m00;", -11, 5);
        read("i;m000;", -12, 3);
        read("i;m0 0;v00 0;", -11, 12);
        read("i;m0 0;v0 00;", -11, 12);
        read("c99;m0 0;n00;", -11, 12);
        read("c99;c0;m1 0;s00;", -11, 15);
    }

    private static void theEnd() {
        Check.of("1 FAULTS: (the end at the text's length)");
        String whole = "i;c99,0;c1;m2 0;n0 1;v0 0 5;s0 0;";
        int types = 0;
        for (int end = 0; end < whole.length(); end++) {
            String part = whole.substring(0, end);
            boolean isEnded = part.isEmpty() || part.endsWith(";");
            types = part.replaceAll("[^ci]", "").length();
            if (isEnded) {
                stands(part, types);
                stands(part + "   ", types);
            } else if (!part.endsWith("c9")) {
                read(part, -11, end);
                read(part + "   ", -11, end + 3);
            }
        }
        read("i;c9", -12, 3);
        // A longer text ahead of it has left its letters behind the end.
        for (String old : new String[] {" ".repeat(240), "0".repeat(240), ";".repeat(240), ",".repeat(240)}) {
            for (String part : new String[] {"i", "c", "c99", "c99,", "i;m0", "i;m0 ", "i;m0 0", "i;m0 0;v0 0 0"}) {
                EarlyBinder x = new EarlyBinder();
                Check.feed(x, old);
                x.program();
                Check.feed(x, part);
                Check.due("program() of '" + part + "'", x.program(), -11);
                Check.due("its end", x.fault(), part.length());
            }
        }
    }

    private static void firstLetterThenLeast() {
        Check.of("1 FAULTS, at the first letter that has one");
        read("i;c0;x", -14, 3);
        read("c0;x", -12, 1);
        read("i;c0,9", -14, 3);
        read("x;c0;", -11, 0);
        read("i;c99,0,0,0;", -14, 8);
        read(TWELVE + "c77,x", -13, TWELVE.length());
        Check.of("1 FAULTS, of these the least");
        read("000", -11, 0);
        read("c99 000;", -11, 4);
        read("i;i 0 000;", -11, 6);
        read("i;m0 0;m0 6;", -12, 10);
        read(TWELVE + "x", -11, TWELVE.length());
        read(TWELVE + "000", -11, TWELVE.length());
        read("i;c00 ;", -14, 3);
        read("i;c000;", -12, 3);
        read("c99;m0 0;s00 0;", -14, 10);
        read("c99;m0 0;s000 0;", -12, 10);
    }

    private static void emptyText() {
        Check.of("1 An empty text (or one of blanks alone): no TYPES");
        stands("", 0);
        stands(" ", 0);
        stands(" ".repeat(240), 0);
        EarlyBinder x = Check.told("c99;m0 0;v0 0 0;n0 0;");
        x.load(0);
        x.root(0, true);
        x.bindAll();
        x.keep(0);
        x.load(0);
        Check.due("program() of an empty text", x.program(), 0);
        Check.same("as a new object", Check.all(x), Check.all(new EarlyBinder()));
        Check.due("IMAGE 0 is gone", x.goBack(0), Check.NOT);
        Check.due("drift(1, 1)", x.drift(1, 1), Check.NOT);
    }

    private static void textIsEmptyThen() {
        Check.of("3 program: THE TEXT (it is empty then, with a FAULT, too)");
        EarlyBinder x = new EarlyBinder();
        Check.feed(x, "i;");
        x.program();
        Check.due("told(4)", x.told(4), 0);
        Check.due("program() again: no TYPES", x.program(), 0);
        Check.feed(x, "i;c0;");
        Check.due("with a FAULT", x.program(), -14);
        Check.due("told(4) with a FAULT", x.told(4), 0);
        Check.due("feed() is the first", x.feed('c'), 1);
        Check.feed(x, "99;");
        Check.due("nothing is left of the faulty one", x.program(), 1);
        Check.due("a CLASS", x.type(0, 0), 1);
    }

    private static void faultsLetter() {
        Check.of("4 fault: The letter of the FAULT of the latest program(); NONE");
        EarlyBinder x = new EarlyBinder();
        Check.due("ahead of the first", x.fault(), Check.NONE);
        Check.feed(x, "i;x");
        Check.due("fed, not told", x.fault(), Check.NONE);
        x.program();
        Check.due("the first", x.fault(), 2);
        Check.feed(x, "x");
        Check.due("it stays while letters come", x.fault(), 2);
        x.program();
        Check.due("another", x.fault(), 0);
        Check.feed(x, "c99;m0 0;");
        Check.due("good", x.program(), 1);
        Check.due("of a good one", x.fault(), Check.NONE);
        x.keep(0);
        x.load(0);
        Check.feed(x, "c99;c98;");
        x.program();
        x.undo();
        x.goBack(0);
        Check.due("undo(), goBack() leave it", x.fault(), 5);
        x.program();
        Check.due("of an empty text", x.fault(), Check.NONE);
    }
}
