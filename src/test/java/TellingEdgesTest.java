/** Sections 2, 3 and promises 5 to 15 and 23, sentence by sentence: bounds of what is asked, nothing, one, all. */
public final class TellingEdgesTest {
    private static final int LEAST = Integer.MIN_VALUE, GREATEST = Integer.MAX_VALUE;
    // 0 i, 1 c99 with 0, 2 c1, 3 i, 4 c99; bodies 0 of 1, 1 of 2, 2 of 0; calls 0 of 1, 1 of 0
    private static final String SMALL = "i;c99,0;c1;i;c99;m1 0;m2 0;m0 1;n0 2;v0 1 0;v1 0 1;s1 0;";

    public static void main(String[] args) {
        numbersFromNoughtOn();
        highestBits();
        toldsWhat();
        nothingLoadedAtFirst();
        typesWhat();
        depths();
        hurts();
        classAbove();
        usersOfInterfaces();
        commonOfTwo();
        belowAnother();
        makersOfClasses();
        foundOrNone();
        twelveClassesUp();
        lowestInterfaceAlone();
        bodiesWhat();
        rings();
        over();
        goesAndCallers();
        callsWhat();
        mayOfNoneOneTwo();
        doesNothingUnlessReached();
        breaks();
        rootsOfLoadedTypes();
        deadAndCould();
        ways();
        firstRowOfMany();
        twentyBodiesInARow();
        Check.finish();
    }

    private static void numbersFromNoughtOn() {
        Check.of("Terms: What has a number has it from 0 on; UNKNOWN (a TYPE, BODY, CALL that there is not)");
        EarlyBinder x = Check.told(SMALL);
        for (int n : new int[] {-1, LEAST, GREATEST}) {
            unknown(x, n, n, n);
        }
        unknown(x, 5, 3, 2);
        unknown(x, 12, 20, 24);
        unknown(x, 32, 32, 32);
        Check.due("TYPE 0", x.type(0, 0), 0);
        Check.due("TYPE 4", x.type(4, 0), 1);
        Check.due("BODY 0", x.body(0, 0), 1);
        Check.due("BODY 2", x.body(2, 0), 0);
        Check.due("CALL 0", x.call(0, 1), 1);
        Check.due("CALL 1", x.call(1, 1), 0);
    }

    private static void unknown(EarlyBinder x, int t, int b, int c) {
        for (int what : new int[] {-1, 0, 5, 6, 7}) {
            Check.due("type(" + t + ", " + what + ")", x.type(t, what), Check.UNKNOWN);
            Check.due("body(" + b + ", " + what + ")", x.body(b, what), Check.UNKNOWN);
            Check.due("call(" + c + ", " + what + ")", x.call(c, what), Check.UNKNOWN);
        }
        Check.due("above(" + t + ")", x.above(t), Check.UNKNOWN);
        Check.due("users(" + t + ")", x.users(t), Check.UNKNOWN);
        Check.due("makers(" + t + ")", x.makers(t), Check.UNKNOWN);
        Check.due("common(" + t + ", 1)", x.common(t, 1), Check.UNKNOWN);
        Check.due("common(1, " + t + ")", x.common(1, t), Check.UNKNOWN);
        Check.due("common(" + t + ", 0)", x.common(t, 0), Check.UNKNOWN);
        Check.due("common(0, " + t + ")", x.common(0, t), Check.UNKNOWN);
        Check.due("isBelow(" + t + ", 1)", x.isBelow(t, 1), Check.UNKNOWN);
        Check.due("isBelow(1, " + t + ")", x.isBelow(1, t), Check.UNKNOWN);
        Check.due("found(" + t + ", 0)", x.found(t, 0), Check.UNKNOWN);
        Check.due("callers(" + b + ")", x.callers(b), Check.UNKNOWN);
        Check.due("way(" + b + ", -1)", x.way(b, -1), Check.UNKNOWN);
        Check.due("way(" + b + ", -2)", x.way(b, -2), Check.UNKNOWN);
    }

    private static void highestBits() {
        Check.of("Terms: A SET is a whole number, bit k for k");
        EarlyBinder x = Check.told("c99;c0;c1;c2;c3;c4;c5;c6;c7;c8;c9;c10;m0 0;m11 0;v0 0 0;n0 11;");
        Check.due("ABOVE 11", x.type(11, 1), 4095);
        Check.due("BELOW 11", x.type(11, 2), 1 << 11);
        Check.due("BELOW 0", x.type(0, 2), 4095);
        Check.due("load(11)", x.load(11), 12);
        Check.due("LOADED", x.told(5), 4095);
        x.root(0, true);
        Check.due("MADE", x.told(7), 1 << 11);
        x = Check.told(row(""));
        Check.due("BODIES of the last", x.type(3, 4), 31 << 15);
        Check.due("root(19, true)", x.root(19, true), 1 << 19);
        Check.due("ROOTS", x.told(6), 1 << 19);
        Check.due("load(3)", x.load(3), 4);
        Check.due("REACHED, with what is above it", x.told(8), Check.set(19, 14, 9, 4));
        Check.due("DEAD", x.told(9), (1 << 20) - 1 & ~Check.set(19, 14, 9, 4));
        x = Check.told("c99;m0 0;" + "v0 0 0;".repeat(24));
        x.load(0);
        Check.due("bindAll()", x.bindAll(), 24);
        Check.due("BOUND", x.told(11), (1 << 24) - 1);
        x.loose(23);
        Check.due("BOUND without the last", x.told(11), (1 << 23) - 1);
    }

    private static void toldsWhat() {
        Check.of("5 told: 0 .. 15; OUTSIDE");
        EarlyBinder x = Check.told(SMALL);
        for (int what : new int[] {-1, 16, 31, 32, LEAST, GREATEST}) {
            Check.due("told(" + what + ")", x.told(what), Check.OUTSIDE);
        }
        Check.due("told(0)", x.told(0), 5);
        Check.due("told(1)", x.told(1), 3);
        Check.due("told(2)", x.told(2), 4);
        Check.due("told(3)", x.told(3), 2);
        Check.due("told(15)", x.told(15), 0);
        x.bindAll();
        Check.due("told(15), one can be undone", x.told(15), 1);
    }

    private static void nothingLoadedAtFirst() {
        Check.of("2 LOADED (nothing at first); ROOTS: BODIES (none at first)");
        EarlyBinder x = Check.told(SMALL);
        for (int what = 4; what <= 15; what++) {
            Check.due("told(" + what + ")", x.told(what), 0);
        }
        for (int b = 0; b < 3; b++) {
            Check.due("REACHED " + b, x.body(b, 3), 0);
            Check.due("way to " + b, x.way(b, -1), Check.NONE);
        }
    }

    private static void typesWhat() {
        Check.of("6 type: what = 0 .. 5; UNKNOWN, OUTSIDE");
        EarlyBinder x = Check.told(SMALL);
        for (int t = 0; t < 5; t++) {
            for (int what : new int[] {-1, 6, 7, LEAST, GREATEST}) {
                Check.due("type(" + t + ", " + what + ")", x.type(t, what), Check.OUTSIDE);
            }
        }
        Check.of("6 type: 1 what is ABOVE, 2 BELOW it (SETS, itself, too)");
        Check.due("ABOVE one alone", x.type(3, 1), 8);
        Check.due("BELOW one alone", x.type(3, 2), 8);
        Check.due("ABOVE 2", x.type(2, 1), 7);
        Check.due("BELOW 0", x.type(0, 2), 7);
        Check.due("no BODIES", x.type(3, 4), 0);
    }

    private static void depths() {
        Check.of("3 DEPTH: how many are on the longest way up (1: nothing is above it but itself)");
        EarlyBinder x = Check.told("c99;i;i1;i2,1;c0,1;c0,3;c5,1;");
        int[] due = {1, 1, 2, 3, 2, 4, 5};
        for (int t = 0; t < due.length; t++) {
            Check.due("DEPTH of " + t, x.type(t, 3), due[t]);
        }
        x = Check.told("i;i0;i1;i2;i3;i4;i5;i6;i7;i8;i9;i10;");
        Check.due("DEPTH of twelve", x.type(11, 3), 12);
        Check.due("DEPTH of the first", x.type(0, 3), 1);
    }

    private static void hurts() {
        Check.of("6 type: 5 HURTS (a SET of CALLS; 0, if it is LOADED)");
        EarlyBinder x = Check.told("c99;c0;c1;c0;c99;m0 0;m2 0;v0 0 0;v0 1 0;v0 4 0;");
        for (int t = 0; t < 5; t++) {
            Check.due("nothing is BOUND: " + t, x.type(t, 5), 0);
        }
        x.load(1);
        Check.due("bindAll()", x.bindAll(), 2);
        int[] due = {0, 0, 3, 0, 0};
        for (int t = 0; t < 5; t++) {
            Check.due("HURTS of " + t, x.type(t, 5), due[t]);
        }
        Check.due("nothing changes by it", x.told(11), 3);
        x.load(2);
        Check.due("as foretold", x.told(11), 0);
        Check.due("LOADED", x.type(2, 5), 0);
    }

    private static void classAbove() {
        Check.of("7 above: NONE; WRONG");
        EarlyBinder x = Check.told(SMALL);
        Check.due("above(1): below none, with an INTERFACE", x.above(1), Check.NONE);
        Check.due("above(2)", x.above(2), 1);
        Check.due("above(0): an INTERFACE", x.above(0), Check.WRONG);
        Check.due("above(3): an INTERFACE", x.above(3), Check.WRONG);
    }

    private static void usersOfInterfaces() {
        Check.of("8 users: How many CLASSES have an INTERFACE ABOVE them; WRONG");
        EarlyBinder x = Check.told("i;i0;c99,1;c2;i;c99,0,1;");
        Check.due("users(0): INTERFACES don't count", x.users(0), 3);
        Check.due("users(1)", x.users(1), 3);
        Check.due("users(4): nobody", x.users(4), 0);
        Check.due("users(2)", x.users(2), Check.WRONG);
        x = Check.told("i;" + "c99,0;".repeat(11));
        Check.due("users(0): all", x.users(0), 11);
    }

    private static void commonOfTwo() {
        Check.of("9 common: The first of a CLASS, the one it is below, and so on, that is ABOVE another; NONE");
        EarlyBinder x = Check.told("c99;c0;c1;c1;c99;i;c4,5;c3,5;");
        Check.due("common(2, 3)", x.common(2, 3), 1);
        Check.due("common(2, 1): the other itself", x.common(2, 1), 1);
        Check.due("common(1, 2): itself", x.common(1, 2), 1);
        Check.due("common(0, 7)", x.common(0, 7), 0);
        Check.due("common(6, 7): an INTERFACE alone", x.common(6, 7), Check.NONE);
        Check.due("common(0, 4)", x.common(0, 4), Check.NONE);
        Check.of("9 common: UNKNOWN (one twice), WRONG (either)");
        Check.due("common(2, 2)", x.common(2, 2), Check.UNKNOWN);
        Check.due("common(5, 5): UNKNOWN ahead of WRONG", x.common(5, 5), Check.UNKNOWN);
        Check.due("common(5, 0)", x.common(5, 0), Check.WRONG);
        Check.due("common(0, 5)", x.common(0, 5), Check.WRONG);
        Check.due("common(5, 8): UNKNOWN ahead of WRONG", x.common(5, 8), Check.UNKNOWN);
        Check.due("common(8, 5): UNKNOWN ahead of WRONG", x.common(8, 5), Check.UNKNOWN);
    }

    private static void belowAnother() {
        Check.of("10 isBelow: 1 a TYPE is BELOW another one, 0 not; UNKNOWN (one twice)");
        EarlyBinder x = Check.told(SMALL);
        Check.due("isBelow(2, 0)", x.isBelow(2, 0), 1);
        Check.due("isBelow(0, 2)", x.isBelow(0, 2), 0);
        Check.due("isBelow(3, 0)", x.isBelow(3, 0), 0);
        Check.due("isBelow(4, 3)", x.isBelow(4, 3), 0);
        for (int t = 0; t < 5; t++) {
            Check.due("isBelow(" + t + ", " + t + ")", x.isBelow(t, t), Check.UNKNOWN);
        }
    }

    private static void makersOfClasses() {
        Check.of("11 makers: BODIES that make a CLASS (a SET); WRONG");
        EarlyBinder x = Check.told("c99;i;c0;c0;m0 0;m1 0;m0 1;n0 0;n2 0;n2 0;n1 2;v0 3 0;");
        Check.due("makers(0)", x.makers(0), 5);
        Check.due("makers(2)", x.makers(2), 2);
        Check.due("makers(3): nobody", x.makers(3), 0);
        Check.due("makers(1)", x.makers(1), Check.WRONG);
        x = Check.told("c99;m0 0;v0 0 0;");
        Check.due("makers(0): nobody, no STEP makes", x.makers(0), 0);
        x = Check.told("c99;m0 0;" + "n0 0;".repeat(3) + "v0 0 0;");
        Check.feed(x, "x");
        x.program();
        Check.feed(x, "c99;m0 0;n0 0;n0 0;x");
        x.program();
        Check.feed(x, "c99;m0 0;v0 0 0;");
        x.program();
        Check.due("makers(0): nobody in this program", x.makers(0), 0);
        Check.due("its STEPS", x.body(0, 2), 1);
    }

    private static void foundOrNone() {
        Check.of("12 found: NONE; UNKNOWN (a MESSAGE that there is not), WRONG");
        EarlyBinder x = Check.told("i;c99,0;c1;m1 0;m0 5;m2 3;");
        Check.due("found(2, 0): of the one above", x.found(2, 0), 0);
        Check.due("found(2, 5): of an INTERFACE", x.found(2, 5), 1);
        Check.due("found(2, 3): its own", x.found(2, 3), 2);
        Check.due("found(1, 3): not of the one below", x.found(1, 3), Check.NONE);
        Check.due("found(2, 1)", x.found(2, 1), Check.NONE);
        for (int m : new int[] {-1, 6, 7, LEAST, GREATEST}) {
            Check.due("found(1, " + m + ")", x.found(1, m), Check.UNKNOWN);
            Check.due("found(0, " + m + "): UNKNOWN ahead of WRONG", x.found(0, m), Check.UNKNOWN);
        }
        Check.due("found(0, 0)", x.found(0, 0), Check.WRONG);
        Check.due("found(0, 5): though it has one", x.found(0, 5), Check.WRONG);
    }

    private static void twelveClassesUp() {
        Check.of("2 FOUND: the first of the CLASS, the one it is below, and so on, that has one: up to the twelfth");
        EarlyBinder x = Check.told("c99;c0;c1;c2;c3;c4;c5;c6;c7;c8;c9;c10;m0 0;m11 1;m0 1;");
        Check.due("found(11, 0)", x.found(11, 0), 0);
        Check.due("OVER", x.body(1, 5), 2);
        Check.of("9 common: up to the twelfth");
        Check.due("common(11, 0)", x.common(11, 0), 0);
        Check.due("common(0, 11)", x.common(0, 11), 0);
        x = Check.told("i;c99,0;c1;c2;c3;c4;c5;c6;c7;c8;c9;c10;m0 0;");
        Check.of("2 FOUND: if none has: of all INTERFACES ABOVE it: eleven CLASSES up");
        Check.due("found(11, 0)", x.found(11, 0), 0);
    }

    private static void lowestInterfaceAlone() {
        Check.of("2 FOUND: those that have no other such BELOW them: if that is one alone, its BODY; else NONE");
        // 1, 2 below 0; 3 below 1, 2 without a BODY
        String types = "i;i0;i0;i1,2;c99,3;c99,1;c99,1,0;";
        EarlyBinder x = Check.told(types + "m0 0;m1 0;m2 0;m0 1;m1 1;m0 2;m1 3;m2 3;m3 3;");
        Check.due("two are lowest", x.found(4, 0), Check.NONE);
        Check.due("one is lowest, one above it", x.found(4, 1), 4);
        Check.due("one alone", x.found(4, 2), 5);
        Check.due("one below both", x.found(4, 3), 8);
        Check.due("none has one", x.found(4, 4), Check.NONE);
        Check.due("the other is not above the CLASS", x.found(5, 0), 1);
        Check.due("told beside the one above it", x.found(6, 0), 1);
        x = Check.told("c99;i;i;c99,2;c99,1,2;m0 0;m2 0;");
        Check.due("what the CLASS is not below does not count", x.found(3, 0), 1);
        Check.due("an INTERFACE without one does not count", x.found(4, 0), 1);
        x = Check.told("i;i;c99,0,1;m1 0;");
        Check.due("nor the first without one", x.found(2, 0), 0);
        x = Check.told(types + "m3 0;m1 0;m2 0;c4;c99;c8,3;m8 0;m7 1;");
        Check.due("one below both, without one of 0", x.found(7, 0), 0);
        Check.due("a CLASS far above goes ahead of an INTERFACE", x.found(9, 0), 3);
    }

    private static void bodiesWhat() {
        Check.of("13 body: what = 0 .. 6; UNKNOWN, OUTSIDE");
        EarlyBinder x = Check.told(SMALL);
        for (int b = 0; b < 3; b++) {
            for (int what : new int[] {-1, 7, 8, LEAST, GREATEST}) {
                Check.due("body(" + b + ", " + what + ")", x.body(b, what), Check.OUTSIDE);
            }
        }
        Check.due("body(0, 2)", x.body(0, 2), 2);
        Check.due("body(2, 2): no STEPS", x.body(2, 2), 0);
        x.load(2);
        x.root(2, true);
        Check.due("body(2, 3): not LOADED alone, a ROOT", x.body(2, 3), 1);
        Check.due("body(0, 3): LOADED, not REACHED", x.body(0, 3), 0);
        x = Check.told("c99;m0 0;m0 1;" + "n1 0;".repeat(24));
        Check.due("all STEPS", x.body(1, 2), 24);
        Check.due("none of them", x.body(0, 2), 0);
    }

    private static void rings() {
        Check.of("3 RING: whether (1, 0) a REACHED BODY comes back to itself by calls");
        EarlyBinder x = Check.told("c99;c0;m0 0;m0 1;m0 2;m1 3;n0 0;v0 0 1;v1 0 1;v2 0 2;s3 0;v0 0 3;");
        x.load(0);
        x.root(0, true);
        Check.due("calls another", x.body(0, 4), 0);
        Check.due("calls itself", x.body(1, 4), 1);
        Check.due("would call itself, not REACHED", x.body(2, 4), 0);
        x.load(1);
        x.root(3, true);
        Check.due("calls what is above it", x.body(3, 4), 0);
        x = Check.told("c99;c0;m0 0;m1 0;n0 1;v0 0 0;s1 0;");
        x.load(1);
        x.root(0, true);
        Check.due("by both sorts of calls", x.body(0, 4), 1);
        Check.due("by both sorts of calls, below", x.body(1, 4), 1);
    }

    private static void over() {
        Check.of("3 OVER: FOUND, had the CLASS none; NONE; 13 body: NONE of an INTERFACE");
        EarlyBinder x = Check.told("i;i0;c99,1;c2;c3;m0 0;m1 0;m2 0;m4 0;m4 1;m2 2;");
        Check.due("OVER of an INTERFACE, though one is above", x.body(1, 5), Check.NONE);
        Check.due("OVER: of an INTERFACE", x.body(2, 5), 1);
        Check.due("OVER: two CLASSES up", x.body(3, 5), 2);
        Check.due("OVER: none", x.body(4, 5), Check.NONE);
        Check.due("OVER of the first CLASS", x.body(5, 5), Check.NONE);
        x = Check.told("i;i;c99,0,1;m0 0;m1 0;m2 0;");
        Check.due("OVER: two INTERFACES", x.body(2, 5), Check.NONE);
        // The CLASS's own INTERFACE counts, but only where no CLASS above it has one.
        x = Check.told("i;c99;c1,0;m0 0;m2 0;m1 1;m0 1;m2 1;");
        Check.due("OVER: its own INTERFACE", x.body(1, 5), 0);
        Check.due("OVER: the CLASS above goes ahead", x.body(4, 5), 2);
    }

    private static void goesAndCallers() {
        Check.of("13 body: 6 BODIES that it calls (as far as it is REACHED; else 0); 14 callers: REACHED BODIES");
        EarlyBinder x = Check.told(SMALL);
        x.load(2);
        Check.due("not REACHED, calls by 's'", x.body(1, 6), 0);
        Check.due("callers(0), nobody REACHED", x.callers(0), 0);
        x.root(1, true);
        Check.due("REACHED: by 's' 0, which makes 2, and so 2", x.body(1, 6), Check.set(0, 2));
        Check.due("no calls", x.body(2, 6), 0);
        Check.due("callers(0)", x.callers(0), Check.set(1));
        Check.due("callers(2)", x.callers(2), Check.set(1));
        Check.due("callers(1)", x.callers(1), Check.set(0));
        x.root(0, true);
        x.root(1, false);
        Check.due("callers(2), still", x.callers(2), Check.set(1));
        x.root(0, false);
        for (int b = 0; b < 3; b++) {
            Check.due("REACHED no more: calls of " + b, x.body(b, 6), 0);
            Check.due("REACHED no more: callers of " + b, x.callers(b), 0);
        }
        x = Check.told("c99;m0 0;m0 1;m0 2;n0 0;v0 0 1;v1 0 1;v2 0 1;v0 0 2;");
        x.load(0);
        x.root(0, true);
        Check.due("callers(1): all, itself, too", x.callers(1), 7);
        Check.due("callers(0): nobody", x.callers(0), 0);
        Check.due("body(0, 6): two", x.body(0, 6), 6);
    }

    private static void callsWhat() {
        Check.of("15 call: what = 0 .. 6; UNKNOWN, OUTSIDE; 5 NONE");
        EarlyBinder x = Check.told(SMALL);
        for (int c = 0; c < 2; c++) {
            for (int what : new int[] {-1, 7, 8, LEAST, GREATEST}) {
                Check.due("call(" + c + ", " + what + ")", x.call(c, what), Check.OUTSIDE);
            }
            Check.due("BOUND to", x.call(c, 5), Check.NONE);
        }
        x.load(1);
        x.bind(0);
        Check.due("BOUND to BODY 0", x.call(0, 5), 0);
        x.load(2);
        Check.due("WITHDRAWN", x.call(0, 5), Check.NONE);
    }

    private static void mayOfNoneOneTwo() {
        Check.of("2 MAY: BODIES FOUND for its MESSAGE and any LOADED CLASS BELOW its TYPE");
        EarlyBinder x = Check.told("i;c99,0;c1;c1;c99;m1 0;m2 0;m4 0;v0 0 0;v0 0 1;");
        Check.due("nothing LOADED", x.call(0, 3), 0);
        x.load(0);
        Check.due("an INTERFACE alone", x.call(0, 3), 0);
        x.load(4);
        Check.due("a CLASS that is not BELOW", x.call(0, 3), 0);
        x.load(1);
        Check.due("one", x.call(0, 3), 1);
        x.load(3);
        Check.due("one of two CLASSES", x.call(0, 3), 1);
        x.load(2);
        Check.due("two", x.call(0, 3), 3);
        Check.due("nothing FOUND", x.call(1, 3), 0);
    }

    private static void doesNothingUnlessReached() {
        Check.of("15 call: 4 DOES (0, if its BODY is not REACHED)");
        EarlyBinder x = Check.told("c99;c0;m0 0;m1 0;m0 1;v0 0 0;n0 0;n2 1;");
        x.load(1);
        x.root(2, true);
        Check.due("MADE", x.told(7), 2);
        Check.due("not REACHED, though 1 is MADE", x.call(0, 4), 0);
        x.root(0, true);
        Check.due("REACHED", x.call(0, 4), 3);
        x.root(2, false);
        Check.due("1 is MADE no more", x.call(0, 4), 1);
    }

    private static void breaks() {
        Check.of("15 call: 6 BREAKS (a SET of TYPES; 0, if it is not BOUND)");
        EarlyBinder x = Check.told("c99;c0;c1;c0;i;c3,4;m0 0;m1 0;m5 0;v0 0 0;v0 4 0;");
        x.load(0);
        Check.due("not BOUND", x.call(0, 6), 0);
        x.bind(0);
        Check.due("not LOADED and with another BODY, or below such a one", x.call(0, 6), Check.set(1, 2, 5));
        x.load(3);
        Check.due("3 has none of its own", x.call(0, 6), Check.set(1, 2, 5));
        Check.due("nothing changes by it", x.told(5), Check.set(0, 3));
        Check.due("still BOUND", x.told(11), 1);
        x.loose(0);
        Check.due("BOUND no more", x.call(0, 6), 0);
        x.load(5);
        Check.due("bind(1)", x.bind(1), 2);
        Check.due("no TYPE breaks it", x.call(1, 6), 0);
    }

    private static void rootsOfLoadedTypes() {
        Check.of("2 REACHED: a ROOT of a LOADED TYPE; MADE: a LOADED CLASS that a REACHED BODY makes");
        EarlyBinder x = Check.told("c99;c0;m0 0;m1 0;n0 1;v0 0 0;");
        x.root(0, true);
        Check.due("its TYPE is not LOADED", x.told(8), 0);
        Check.due("way to it", x.way(0, -1), Check.NONE);
        x.load(0);
        Check.due("LOADED", x.told(8), 1);
        Check.due("1 is not LOADED", x.told(7), 0);
        x.load(1);
        Check.due("MADE", x.told(7), 2);
        Check.due("by its CALL", x.told(8), 3);
        x.root(0, false);
        Check.due("no ROOT: nothing MADE", x.told(7), 0);
        Check.due("no ROOT: nothing REACHED", x.told(8), 0);
    }

    private static void deadAndCould() {
        Check.of("3 DEAD: BODIES of LOADED TYPES that are not REACHED; COULD: were all LOADED CLASSES MADE");
        EarlyBinder x = Check.told("c99;c0;c0;m0 0;m1 0;m2 0;v0 0 0;");
        x.root(0, true);
        Check.due("nothing LOADED: DEAD", x.told(9), 0);
        Check.due("nothing LOADED: COULD", x.told(10), 0);
        x.load(1);
        Check.due("DEAD", x.told(9), 2);
        Check.due("COULD", x.told(10), 3);
        x.load(2);
        Check.due("DEAD with 2", x.told(9), 6);
        Check.due("COULD with 2", x.told(10), 7);
        x.root(1, true);
        x.root(2, true);
        Check.due("nothing is DEAD", x.told(9), 0);
    }

    private static void ways() {
        Check.of("23 way: k = NONE how many, else the k-th (NONE: not so many); NONE; OUTSIDE: k below NONE");
        EarlyBinder x = Check.told(SMALL);
        x.load(2);
        x.root(0, true);
        Check.due("of a ROOT", x.way(0, -1), 0);
        Check.due("of a ROOT: the 0th", x.way(0, 0), 0);
        Check.due("of a ROOT: the 1st", x.way(0, 1), Check.NONE);
        Check.due("of one called", x.way(2, -1), 2);
        Check.due("0th", x.way(2, 0), 0);
        Check.due("1st", x.way(2, 1), 1);
        Check.due("2nd", x.way(2, 2), 2);
        Check.due("3rd", x.way(2, 3), Check.NONE);
        Check.due("20th", x.way(2, 20), Check.NONE);
        Check.due("greatest", x.way(2, GREATEST), Check.NONE);
        for (int k : new int[] {-2, -3, LEAST}) {
            Check.due("way(2, " + k + ")", x.way(2, k), Check.OUTSIDE);
        }
        x.root(0, false);
        for (int k = -1; k < 3; k++) {
            Check.due("not REACHED: " + k, x.way(2, k), Check.NONE);
        }
        Check.due("not REACHED: OUTSIDE all the same", x.way(2, -2), Check.OUTSIDE);
    }

    private static void firstRowOfMany() {
        Check.of("3 WAY: on the first such row (BODY by BODY the least; the ROOT is the 0th)");
        // 0 > 2 > 5, 3 > 5, 1 > 5 with 1 come to from 2 alone; 4 > 2, 4 > 3.
        EarlyBinder x = Check.told("c99;m0 0;m0 1;m0 2;m0 3;m0 4;m0 5;n0 0;n4 0;"
                + "v0 0 2;v2 0 5;v3 0 5;v1 0 5;v2 0 1;v4 0 3;v4 0 2;");
        x.load(0);
        x.root(4, true);
        row(x, 5, 4, 2, 5);
        x.root(0, true);
        row(x, 5, 0, 2, 5);
        x.root(3, true);
        row(x, 5, 3, 5);
        row(x, 1, 0, 2, 1);
        x.root(1, true);
        row(x, 5, 1, 5);
        x.root(5, true);
        row(x, 5, 5);
    }

    private static void row(EarlyBinder x, int b, int... due) {
        Check.due("WAY to " + b, x.way(b, -1), due.length - 1);
        for (int k = 0; k < due.length; k++) {
            Check.due("WAY to " + b + ", the " + k + "th", x.way(b, k), due[k]);
        }
        Check.due("WAY to " + b + ", behind it", x.way(b, due.length), Check.NONE);
    }

    /**
     * 20 bodies in a row of 19 calls, four classes deep: up by 's', and from the top down again by 'v'. The steps are
     * told backwards, so that a plain search finds but one body more in each round. Body 19 is the first of the row.
     */
    private static String row(String more) {
        StringBuilder text = new StringBuilder("c99;c0;c1;c2;");
        StringBuilder steps = new StringBuilder();
        for (int b = 0; b < 20; b++) {
            text.append('m').append(b / 5).append(' ').append(b % 5).append(';');
        }
        for (int m = 0; m < 5; m++) {
            for (int t = 0; t < 4; t++) {
                int b = t * 5 + m;
                if (t > 0) {
                    steps.append('s').append(b).append(' ').append(m).append(';');
                } else if (m > 0) {
                    steps.append('v').append(b).append(" 3 ").append(m - 1).append(';');
                }
            }
        }
        return text.append(steps).append(more).toString();
    }

    private static void twentyBodiesInARow() {
        Check.of("3 WAY: the fewest calls, through all 20 BODIES");
        EarlyBinder x = Check.told(row("n19 3;"));
        x.load(3);
        x.root(19, true);
        Check.due("REACHED", x.told(8), (1 << 20) - 1);
        Check.due("how many", x.way(0, -1), 19);
        for (int k = 0; k < 20; k++) {
            int b = (3 - k % 4) * 5 + 4 - k / 4;
            Check.due("the k-th " + k, x.way(0, k), b);
            Check.due("how many to " + b, x.way(b, -1), k);
            Check.due("RING " + b, x.body(b, 4), 0);
        }
        Check.due("the 20th", x.way(0, 20), Check.NONE);
        Check.of("3 RING: through all 20 BODIES");
        x = Check.told(row("n19 3;v0 3 4;"));
        x.load(3);
        x.root(19, true);
        for (int b = 0; b < 20; b++) {
            Check.due("RING " + b, x.body(b, 4), 1);
        }
        Check.due("COULD", x.told(10), (1 << 20) - 1);
        Check.due("callers(19)", x.callers(19), 1);
        x.root(19, false);
        x.root(18, true);
        Check.due("3 is not MADE from there", x.told(8), Check.set(18, 13, 8, 3));
        Check.due("but COULD", x.told(10), (1 << 20) - 1);
    }
}
