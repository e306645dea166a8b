import java.math.BigInteger;

/** Sections 2, 3 and promises 3, 5, 16 to 27, sentence by sentence: first, last, full, lost, wrapped round. */
public final class DeedEdgesTest {
    private static final int LEAST = Integer.MIN_VALUE, GREATEST = Integer.MAX_VALUE;
    private static final BigInteger FACTOR = BigInteger.valueOf(16807), RING = BigInteger.valueOf(2147483647);
    // Calls 0 of class 0, 1 of class 1; bodies 0, 1, 2 of classes 0, 1, 2; interface 3 of class 4, both without bodies.
    private static final String SMALL = "c99;c0;c0;i;c99,3;m0 0;m1 0;m2 0;v0 0 0;v0 1 0;n0 1;";

    public static void main(String[] args) {
        loading();
        roots();
        binding();
        bindingAll();
        loosing();
        withdrawing();
        journalFull();
        journalBounds();
        counted();
        driftBounds();
        driftWhereThereAreNone();
        driftWrapsRound();
        driftAgainstDeeds();
        driftIsOneDeed();
        undoneEight();
        undoneAll();
        undoneJournal();
        bodiesInTheJournal();
        bodiesOfAFullJournal();
        images();
        imagesGone();
        programStartsAnew();
        holding();
        theLastCall();
        Check.finish();
    }

    private static void loading() {
        Check.of("16 load: how many TYPES were LOADED by it. UNKNOWN, NOT: it is");
        EarlyBinder x = Check.told("i;i0;c99,1;c2;i;c3,4;");
        Check.due("load(0): itself alone", x.load(0), 1);
        Check.due("load(0) again", x.load(0), Check.NOT);
        Check.due("load(3): 0 is LOADED already", x.load(3), 3);
        Check.due("load(1): LOADED by 3", x.load(1), Check.NOT);
        Check.due("load(2): LOADED by 3", x.load(2), Check.NOT);
        Check.due("load(5)", x.load(5), 2);
        Check.due("told(5)", x.told(5), 63);
        for (int t : new int[] {-1, 6, 12, LEAST, GREATEST}) {
            Check.due("load(" + t + ")", x.load(t), Check.UNKNOWN);
        }
        for (int t = 0; t < 6; t++) {
            Check.due("all LOADED: " + t, x.load(t), Check.NOT);
        }
    }

    private static void roots() {
        Check.of("17 root: ROOTS (a SET). UNKNOWN, NOT: it is so");
        EarlyBinder x = Check.told(SMALL);
        Check.due("root(0, false): it is none", x.root(0, false), Check.NOT);
        Check.due("root(2, true): its TYPE is not LOADED", x.root(2, true), 4);
        Check.due("root(2, true) again", x.root(2, true), Check.NOT);
        Check.due("root(0, true)", x.root(0, true), 5);
        Check.due("root(1, true)", x.root(1, true), 7);
        Check.due("root(0, false)", x.root(0, false), 6);
        Check.due("root(0, false) again", x.root(0, false), Check.NOT);
        for (int b : new int[] {-1, 3, 20, LEAST, GREATEST}) {
            Check.due("root(" + b + ", true)", x.root(b, true), Check.UNKNOWN);
            Check.due("root(" + b + ", false)", x.root(b, false), Check.UNKNOWN);
        }
        x.root(1, false);
        Check.due("the last one is no more", x.root(2, false), 0);
    }

    private static void binding() {
        Check.of("18 bind: the BODY. UNKNOWN, NOT: it is, MAY is not one BODY alone");
        EarlyBinder x = Check.told(SMALL);
        Check.due("MAY is nothing", x.bind(0), Check.NOT);
        x.load(0);
        Check.due("MAY is one", x.bind(0), 0);
        Check.due("it is", x.bind(0), Check.NOT);
        Check.due("MAY of 1 is nothing", x.bind(1), Check.NOT);
        x.load(1);
        Check.due("MAY of 0 is two", x.bind(0), Check.NOT);
        Check.due("MAY of 1 is one", x.bind(1), 1);
        for (int c : new int[] {-1, 2, 24, LEAST, GREATEST}) {
            Check.due("bind(" + c + ")", x.bind(c), Check.UNKNOWN);
        }
        Check.due("told(12)", x.told(12), 2);
    }

    private static void bindingAll() {
        Check.of("19 bindAll: All CALLS that can be are BOUND, rising: how many");
        EarlyBinder x = Check.told("c99;c0;m0 0;m1 0;" + "v0 0 0;v0 1 0;".repeat(12));
        Check.due("none can be", x.bindAll(), 0);
        Check.due("it can be undone", x.told(15), 1);
        x.load(0);
        Check.due("half of them", x.bindAll(), 12);
        Check.due("told(11)", x.told(11), 0x555555);
        Check.due("none is left", x.bindAll(), 0);
        for (int i = 0; i < 12; i++) {
            Check.due("rising " + i, x.journal(i, 0), 22 - 2 * i);
        }
        x.load(1);
        Check.due("the others", x.bindAll(), 12);
        Check.due("told(11) then", x.told(11), 0xaaaaaa);
        Check.due("without a program", new EarlyBinder().bindAll(), 0);
    }

    private static void loosing() {
        Check.of("20 loose: (nothing is written): the BODY. UNKNOWN, NOT: it is not");
        EarlyBinder x = Check.told(SMALL);
        x.load(1);
        Check.due("it is not", x.loose(1), Check.NOT);
        x.bind(1);
        Check.due("loose(1): BODY 1", x.loose(1), 1);
        Check.due("loose(1) again", x.loose(1), Check.NOT);
        Check.due("told(11)", x.told(11), 0);
        Check.due("told(12)", x.told(12), 1);
        Check.due("told(13)", x.told(13), 0);
        Check.due("told(14)", x.told(14), 1);
        Check.due("journal(0, 1)", x.journal(0, 1), 1);
        for (int c : new int[] {-1, 2, 24, LEAST, GREATEST}) {
            Check.due("loose(" + c + ")", x.loose(c), Check.UNKNOWN);
        }
        Check.due("it can be BOUND again", x.bind(1), 1);
    }

    private static void withdrawing() {
        Check.of("2 As soon as TYPES are LOADED, all BOUND CALLS the MAY of which is another then are WITHDRAWN");
        EarlyBinder x = Check.told(SMALL);
        x.load(0);
        x.bind(0);
        x.load(4);
        Check.due("not BELOW: still BOUND", x.told(11), 1);
        Check.due("load(1)", x.load(1), 1);
        Check.due("at once", x.told(11), 0);
        Check.due("told(13)", x.told(13), 1);
        Check.due("the CALL", x.journal(0, 0), 0);
        Check.due("WITHDRAWN", x.journal(0, 1), 0);
        Check.due("the BODY it was bound to", x.journal(0, 2), 0);
        x.load(2);
        Check.due("once alone", x.told(13), 1);
        // A CLASS LOADED only as one ABOVE another breaks it, too.
        x = Check.told("c99;c0;c1;m0 0;m1 0;v0 0 0;");
        x.load(0);
        x.bind(0);
        x.load(2);
        Check.due("by a CLASS with no BODY of its own", x.told(13), 1);
        x = Check.told("c99;c0;c0;m0 0;m1 1;v0 0 0;");
        x.load(0);
        x.bind(0);
        x.load(1);
        x.load(2);
        Check.due("the MAY stays: still BOUND", x.told(11), 1);
        Check.due("the MAY stays: not counted", x.told(13), 0);
    }

    private static String manyCalls(int calls) {
        return "c99;c0;m0 0;m1 0;" + "v0 0 0;".repeat(calls);
    }

    private static void journalFull() {
        Check.of("2 THE JOURNAL keeps the latest 16");
        for (int calls : new int[] {0, 1, 15, 16, 17, 24}) {
            EarlyBinder x = Check.told(manyCalls(calls));
            x.load(0);
            x.bindAll();
            int kept = Math.min(calls, 16);
            Check.due("told(14) of " + calls, x.told(14), kept);
            for (int i = 0; i < kept; i++) {
                Check.due("CALL of entry " + i + " of " + calls, x.journal(i, 0), calls - 1 - i);
                Check.due("BOUND " + i, x.journal(i, 1), 1);
                Check.due("BODY " + i, x.journal(i, 2), 0);
            }
            Check.due("behind the last of " + calls, x.journal(kept, 0), Check.NONE);
            x.load(1);
            Check.due("told(14), WITHDRAWN, too", x.told(14), Math.min(2 * calls, 16));
            Check.due("the oldest then", x.journal(15, 0), calls < 8 ? Check.NONE : calls == 15 ? 14 : calls - 16);
            Check.due("told(13)", x.told(13), calls);
        }
    }

    private static void journalBounds() {
        Check.of("24 journal: NONE: not so many. OUTSIDE (what)");
        EarlyBinder x = Check.told(manyCalls(2));
        Check.due("empty", x.journal(0, 0), Check.NONE);
        Check.due("empty: OUTSIDE", x.journal(0, 3), Check.OUTSIDE);
        x.load(0);
        x.bindAll();
        for (int what = 0; what <= 2; what++) {
            for (int i : new int[] {2, 15, 16, GREATEST, -1, LEAST}) {
                Check.due("journal(" + i + ", " + what + ")", x.journal(i, what), Check.NONE);
            }
        }
        for (int what : new int[] {-1, 3, 4, LEAST, GREATEST}) {
            for (int i : new int[] {0, 1, 2, -1, GREATEST}) {
                Check.due("journal(" + i + ", " + what + ")", x.journal(i, what), Check.OUTSIDE);
            }
        }
    }

    /** 9999 is beyond what 512 calls can reach (20 of a drift's 40 steps can bind): this object is used for longer. */
    private static void counted() {
        Check.of("5 told: 12 how often one was BOUND (9999 at most)");
        EarlyBinder x = Check.told("c99;m0 0;" + "v0 0 0;".repeat(24));
        x.load(0);
        for (int n = 1; n <= 9999; n++) {
            x.bind(0);
            if (n == 1 || n > 9990) {
                Check.due("told(12)", x.told(12), n);
            }
            x.loose(0);
        }
        x.bind(0);
        Check.due("the 10000th", x.told(12), 9999);
        Check.due("the 10000th is written all the same", x.told(14), 16);
        x.undo();
        Check.due("undone", x.told(12), 9999);
        Check.due("undone: not BOUND", x.told(11), 0);
        x.bindAll();
        Check.due("24 more", x.told(12), 9999);
    }

    private static void driftBounds() {
        Check.of("21 drift: n steps (1 .. 40), a SEED (1 .. 999999). OUTSIDE, NOT: no TYPES");
        EarlyBinder x = Check.told(SMALL);
        for (int n : new int[] {0, -1, 41, LEAST, GREATEST}) {
            Check.due("drift(" + n + ", 1)", x.drift(n, 1), Check.OUTSIDE);
        }
        for (int seed : new int[] {0, -1, 1000000, LEAST, GREATEST}) {
            Check.due("drift(1, " + seed + ")", x.drift(1, seed), Check.OUTSIDE);
        }
        Check.due("none of them is kept", x.told(15), 0);
        int[][] inside = {{1, 1}, {40, 1}, {1, 999999}, {40, 999999}};
        for (int[] row : inside) {
            Check.due("drift(" + row[0] + ", " + row[1] + ")", x.drift(row[0], row[1]), x.told(5));
        }
        Check.due("all of them are", x.told(15), 4);
        x = new EarlyBinder();
        Check.due("no TYPES", x.drift(1, 1), Check.NOT);
        Check.due("no TYPES: OUTSIDE goes ahead", x.drift(0, 1), Check.OUTSIDE);
        Check.due("no TYPES: OUTSIDE goes ahead", x.drift(1, 1000000), Check.OUTSIDE);
        x.program();
        Check.due("an empty program", x.drift(40, 999999), Check.NOT);
    }

    private static void driftWhereThereAreNone() {
        Check.of("3 BY LOTS: nothing, where there are none");
        EarlyBinder bare = Check.told("c99;");
        EarlyBinder noCalls = Check.told("c99;m0 0;n0 0;");
        for (int seed = 1; seed <= 60; seed++) {
            bare.drift(40, seed);
            noCalls.drift(40, seed);
            Check.due("no BODIES: ROOTS, " + seed, bare.told(6), 0);
        }
        for (int step = 1; step <= 40; step++) {
            bare.drift(1, step);
            Check.due("no BODIES: ROOTS, step by step", bare.told(6), 0);
        }
        Check.due("no BODIES: LOADED", bare.told(5), 1);
        Check.due("no BODIES, no CALLS: BOUND", bare.told(11), 0);
        Check.due("no CALLS: BOUND", noCalls.told(11), 0);
        Check.due("no CALLS: counted", noCalls.told(12), 0);
        EarlyBinder interfaces = Check.told("i;m0 0;v0 0 0;");
        interfaces.drift(40, 4);
        Check.due("MAY is nothing: BOUND", interfaces.told(11), 0);
    }

    /** In numbers that cannot wrap round. */
    private static long lotAfter(long lot) {
        return BigInteger.valueOf(lot).multiply(FACTOR).mod(RING).longValueExact();
    }

    private static void driftWrapsRound() {
        Check.of("3 BY LOTS: what is left of (X times 16807) by 2147483647");
        String text = "c99;c0;c1;i;i;i;i;m0 0;m0 1;m0 2;m0 3;m0 4;";
        for (int seed : new int[] {1, 2, 127772, 127773, 127774, 255546, 500000, 999998, 999999}) {
            EarlyBinder x = Check.told(text);
            long lot = seed;
            int roots = 0;
            int loaded = 0;
            for (int step = 1; step <= 40; step++) {
                lot = lotAfter(lot);
                int rest = (int) (lot / 4);
                if (lot % 4 == 0) {
                    loaded |= x.type(rest % 7, 1);
                } else if (lot % 4 == 1) {
                    roots ^= 1 << rest % 5;
                }
                EarlyBinder y = Check.told(text);
                Check.due("drift(" + step + ", " + seed + ")", y.drift(step, seed), loaded);
                Check.due("ROOTS of it", y.told(6), roots);
            }
        }
    }

    /** The same lots drawn by hand, deed by deed: a drift of one more step is a drift and that deed. */
    private static void driftAgainstDeeds() {
        Check.of("3 BY LOTS: LOADED, if it is not; a ROOT, if not, else no more; BOUND, if it can be; loosed");
        for (int seed = 1; seed <= 40; seed++) {
            EarlyBinder byHand = Check.told(SMALL);
            long lot = seed;
            for (int step = 1; step <= 40; step++) {
                lot = lotAfter(lot);
                deed(byHand, lot);
                EarlyBinder x = Check.told(SMALL);
                Check.due("drift(" + step + ", " + seed + ")", x.drift(step, seed), byHand.told(5));
                for (int what = 5; what <= 14; what++) {
                    Check.due("told(" + what + ") of it", x.told(what), byHand.told(what));
                }
                for (int what = 0; what <= 2; what++) {
                    Check.due("journal(0, " + what + ")", x.journal(0, what), byHand.journal(0, what));
                }
            }
        }
    }

    private static int deed(EarlyBinder x, long lot) {
        int rest = (int) (lot / 4);
        switch ((int) (lot % 4)) {
            case 0: return x.load(rest % 5);
            case 1: return x.root(rest % 3, (x.told(6) >> rest % 3 & 1) == 0);
            case 2: return x.bind(rest % 2);
            default: return x.loose(rest % 2);
        }
    }

    private static void driftIsOneDeed() {
        Check.of("3 UNDONE: the latest of .. drift()");
        EarlyBinder x = Check.told(SMALL);
        x.root(1, true);
        String ahead = state(x);
        x.drift(40, 12345);
        Check.due("one alone", x.told(15), 2);
        Check.due("undo()", x.undo(), 1);
        Check.same("all its steps at once", state(x), ahead);
    }

    /** What is undone and kept: LOADED, ROOTS, BOUND, THE JOURNAL, what was counted. */
    private static String state(EarlyBinder x) {
        StringBuilder s = new StringBuilder();
        for (int what = 5; what <= 14; what++) {
            s.append(x.told(what)).append(' ');
        }
        for (int i = 0; i <= 16; i++) {
            for (int what = 0; what <= 2; what++) {
                s.append(what == 0 ? '|' : ' ').append(x.journal(i, what));
            }
        }
        for (int c = 0; c < x.told(3); c++) {
            s.append('/').append(x.call(c, 5));
        }
        return s.toString();
    }

    private static void undoneEight() {
        Check.of("3 UNDONE: (8 at most are kept, the oldest are lost)");
        for (int deeds = 0; deeds <= 20; deeds++) {
            EarlyBinder x = Check.told(SMALL);
            String[] states = new String[deeds + 1];
            for (int n = 0; n < deeds; n++) {
                states[n] = state(x);
                x.root(n % 3, (x.told(6) >> n % 3 & 1) == 0);
            }
            int kept = Math.min(deeds, 8);
            Check.due("told(15) of " + deeds, x.told(15), kept);
            for (int n = 1; n <= kept; n++) {
                Check.due("undo() " + n + " of " + deeds, x.undo(), kept - n);
                Check.same("undone " + n + " of " + deeds, state(x), states[deeds - n]);
                Check.due("told(15) then", x.told(15), kept - n);
            }
            Check.due("NOT: none", x.undo(), Check.NOT);
            Check.same("NOT changes nothing", state(x), deeds > kept ? states[deeds - kept] : state(Check.told(SMALL)));
            x.root(0, (x.told(6) & 1) == 0);
            Check.due("it goes on", x.told(15), 1);
        }
    }

    private static void undoneAll() {
        Check.of("3 UNDONE: the latest of load(), root(), bind(), bindAll(), loose(), drift()");
        Check.Deed[] deeds = {x -> x.load(4), x -> x.root(2, true), x -> x.bind(0), x -> x.bindAll(), x -> x.loose(1),
            x -> x.drift(7, 99), x -> x.load(2)};
        for (int d = 0; d < deeds.length; d++) {
            EarlyBinder x = Check.told(SMALL);
            x.load(0);
            if (d > 3) {
                x.load(1);
                x.bind(1);
            }
            String ahead = state(x);
            int count = x.told(15);
            Check.due("deed " + d + " is not refused", deeds[d].on(x) >= 0 ? 1 : 0, 1);
            Check.due("told(15) behind deed " + d, x.told(15), count + 1);
            Check.due("undo() of deed " + d, x.undo(), count);
            Check.same("deed " + d + " undone", state(x), ahead);
        }
        Check.of("3 UNDONE: that was not refused");
        EarlyBinder x = Check.told(SMALL);
        x.load(0);
        x.load(0);
        x.root(0, false);
        x.bind(1);
        x.loose(0);
        x.drift(41, 1);
        x.undo();
        Check.due("the load() alone", x.told(15), 0);
        Check.due("the load() is undone", x.told(5), 0);
    }

    private static void undoneJournal() {
        Check.of("3 UNDONE: THE JOURNAL, what was counted are as ahead of it");
        EarlyBinder x = Check.told(manyCalls(20));
        x.load(0);
        x.bindAll();
        String full = state(x);
        x.load(1);
        Check.due("all entries are others", x.journal(15, 1), 0);
        x.undo();
        Check.same("the lost entries are back", state(x), full);
        x.undo();
        Check.due("empty again", x.told(14), 0);
        Check.due("not counted", x.told(12), 0);
        Check.due("journal(0, 0)", x.journal(0, 0), Check.NONE);
        x.bind(3);
        Check.due("told(14)", x.told(14), 1);
        Check.due("journal(0, 0) then", x.journal(0, 0), 3);
    }

    private static void bodiesInTheJournal() {
        Check.of("24 journal: 2 the BODY; 3 UNDONE, IMAGES: THE JOURNAL");
        EarlyBinder x = Check.told("c99;c99;c1;m0 0;m1 0;m2 0;v0 0 0;v0 1 0;v0 2 0;");
        x.load(0);
        x.load(1);
        x.bindAll();
        x.keep(0);
        entries(x, 1, 0);
        x.load(2);
        entries(x, 1, 1, 0);
        x.bindAll();
        entries(x, 2, 1, 1, 0);
        x.undo();
        entries(x, 1, 1, 0);
        x.undo();
        entries(x, 1, 0);
        x.loose(0);
        x.bind(0);
        x.loose(0);
        x.bind(0);
        entries(x, 0, 0, 1, 0);
        x.undo();
        x.undo();
        x.undo();
        x.undo();
        entries(x, 1, 0);
        x.load(2);
        x.bindAll();
        x.goBack(0);
        entries(x, 1, 0);
    }

    private static void bodiesOfAFullJournal() {
        Check.of("2 THE JOURNAL keeps the latest 16: what an undone entry had pushed out is back, with its BODY");
        EarlyBinder x = Check.told("c99;c99;m0 0;m1 0;" + "v0 0 0;".repeat(8) + "v0 1 0;".repeat(8));
        x.load(0);
        x.load(1);
        x.bindAll();
        x.keep(1);
        entries(x, 1, 1, 1, 1, 1, 1, 1, 1, 0, 0, 0, 0, 0, 0, 0, 0);
        x.loose(15);
        x.bind(15);
        entries(x, 1, 1, 1, 1, 1, 1, 1, 1, 1, 0, 0, 0, 0, 0, 0, 0);
        x.undo();
        entries(x, 1, 1, 1, 1, 1, 1, 1, 1, 0, 0, 0, 0, 0, 0, 0, 0);
        x.bind(15);
        x.goBack(1);
        entries(x, 1, 1, 1, 1, 1, 1, 1, 1, 0, 0, 0, 0, 0, 0, 0, 0);
    }

    /** The BODIES of all entries, the latest first. */
    private static void entries(EarlyBinder x, int... bodies) {
        Check.due("told(14)", x.told(14), bodies.length);
        for (int i = 0; i < bodies.length; i++) {
            Check.due("journal(" + i + ", 2)", x.journal(i, 2), bodies[i]);
        }
        Check.due("journal(" + bodies.length + ", 2)", x.journal(bodies.length, 2), Check.NONE);
    }

    private static void images() {
        Check.of("26 keep, 27 goBack: IMAGES 0, 1; (nothing can be undone then): 1. UNKNOWN, NOT: it was not kept");
        EarlyBinder x = Check.told(manyCalls(20));
        for (int i : new int[] {-1, 2, 3, LEAST, GREATEST}) {
            Check.due("keep(" + i + ")", x.keep(i), Check.UNKNOWN);
            Check.due("goBack(" + i + ")", x.goBack(i), Check.UNKNOWN);
        }
        Check.due("goBack(0)", x.goBack(0), Check.NOT);
        x.load(0);
        x.bindAll();
        String first = state(x);
        Check.due("keep(1)", x.keep(1), 1);
        Check.due("told(15)", x.told(15), 0);
        Check.due("undo()", x.undo(), Check.NOT);
        Check.due("goBack(0): 1 alone was kept", x.goBack(0), Check.NOT);
        x.root(0, true);
        x.load(1);
        String second = state(x);
        Check.due("keep(0)", x.keep(0), 1);
        x.loose(0);
        x.root(1, true);
        Check.due("goBack(1)", x.goBack(1), 1);
        Check.due("told(15) then", x.told(15), 0);
        Check.due("undo() then", x.undo(), Check.NOT);
        Check.same("IMAGE 1", state(x), first);
        Check.due("goBack(0)", x.goBack(0), 1);
        Check.same("IMAGE 0", state(x), second);
        x.root(1, true);
        Check.due("keep(0) again", x.keep(0), 1);
        x.root(1, false);
        x.goBack(1);
        x.goBack(0);
        Check.due("the later IMAGE 0", x.told(6), 3);
        x.goBack(1);
        Check.same("IMAGE 1 stays", state(x), first);
        Check.due("goBack(1) twice", x.goBack(1), 1);
    }

    private static void imagesGone() {
        Check.of("3 program: IMAGES, what could be undone are gone; with a FAULT all else is as it was");
        EarlyBinder x = Check.told(SMALL);
        x.keep(0);
        x.load(0);
        x.keep(1);
        x.load(1);
        Check.feed(x, "i");
        x.program();
        Check.due("a FAULT: undo()", x.undo(), 0);
        Check.due("a FAULT: goBack(0)", x.goBack(0), 1);
        Check.due("a FAULT: goBack(1)", x.goBack(1), 1);
        x.load(1);
        Check.feed(x, SMALL);
        x.program();
        Check.due("undo()", x.undo(), Check.NOT);
        Check.due("goBack(0)", x.goBack(0), Check.NOT);
        Check.due("goBack(1)", x.goBack(1), Check.NOT);
    }

    private static void programStartsAnew() {
        Check.of("3 program: nothing LOADED, no ROOTS, nothing BOUND, counted, THE JOURNAL is empty");
        EarlyBinder x = Check.told(manyCalls(20));
        x.load(0);
        x.root(0, true);
        x.bindAll();
        x.load(1);
        x.bindAll();
        // A faulty text of as much as can be told must leave nothing in the next one.
        Check.feed(x, "c99;i;".repeat(6) + "m0 0;m0 1;m0 2;m0 3;m0 4;m0 5;m2 0;m2 1;v0 0 0;v1 0 1;n0 0;x");
        Check.due("a FAULT", x.program(), -11);
        Check.feed(x, SMALL);
        Check.due("program()", x.program(), 5);
        Check.same("as on a new object", Check.all(x), Check.all(Check.told(SMALL)));
        x.load(1);
        x.root(0, true);
        EarlyBinder y = Check.told(SMALL);
        y.load(1);
        y.root(0, true);
        Check.same("and goes on so", Check.all(x), Check.all(y));
        // The same LOADED and ROOTS in another program: asked at once, and after a faulty text of a deep program.
        Check.due("REACHED", x.told(8), 3);
        Check.due("COULD", x.told(10), 3);
        Check.feed(x, "c99;c0;c1;c2;c3;c4;c5;m0 0;m1 0;m2 0;n0 1;n0 2;v0 0 0;s2 0;x");
        x.program();
        Check.feed(x, "c99;c0;c99;c99;m0 0;m2 0;m3 0;v0 0 0;");
        x.program();
        x.load(1);
        x.root(0, true);
        Check.due("REACHED in another program", x.told(8), 1);
        Check.due("COULD in another program", x.told(10), 1);
        for (int t = 0; t < 4; t++) {
            Check.due("ABOVE " + t + " in another program", x.type(t, 1), t == 1 ? 3 : 1 << t);
            Check.due("BELOW " + t + " in another program", x.type(t, 2), t == 0 ? 3 : 1 << t);
        }
        Check.feed(x, "c99;m0 0;m0 1;n0 0;v0 0 1;x");
        x.program();
        Check.feed(x, "c99;m0 0;m0 1;n0 0;");
        x.program();
        x.load(0);
        x.root(0, true);
        Check.due("a STEP of the faulty text", x.body(0, 6), 0);
        Check.of("3 program: -10 less the number of its FAULT");
        String[] faulty = {"x", "c0;", "i;".repeat(13), "i;c0;"};
        for (int number = 1; number <= 4; number++) {
            Check.feed(x, faulty[number - 1]);
            Check.due("FAULT " + number, x.program(), -10 - number);
        }
        Check.of("3 program: how many TYPES");
        for (int types = 0; types <= 12; types++) {
            Check.feed(x, "i;".repeat(types));
            Check.due("TYPES", x.program(), types);
        }
    }

    private static void holding() {
        Check.of("25 holds: (1, 0; 1, if it DOES nothing). UNKNOWN, NOT: it is not BOUND");
        EarlyBinder x = Check.told(SMALL);
        for (int c : new int[] {-1, 2, 24, LEAST, GREATEST}) {
            Check.due("holds(" + c + ")", x.holds(c), Check.UNKNOWN);
        }
        Check.due("not BOUND", x.holds(1), Check.NOT);
        x.load(1);
        x.bind(1);
        Check.due("it DOES nothing", x.holds(1), 1);
        x.root(0, true);
        Check.due("DOES", x.call(1, 4), 2);
        Check.due("it is all that it DOES", x.holds(1), 1);
        Check.due("the other is not BOUND", x.holds(0), Check.NOT);
        x.loose(1);
        Check.due("BOUND no more", x.holds(1), Check.NOT);
    }

    private static void theLastCall() {
        Check.of("An object is used for at most 512 calls");
        EarlyBinder x = new EarlyBinder();
        Check.feed(x, " ".repeat(240 - SMALL.length()) + SMALL);
        Check.due("call 241", x.program(), 5);
        Check.due("call 242", x.load(1), 2);
        Check.due("call 243", x.keep(1), 1);
        for (int call = 244; call <= 509; call++) {
            boolean is = call % 2 == 0;
            Check.due("call " + call, x.root(0, is), is ? 1 : 0);
        }
        Check.due("call 510", x.undo(), 7);
        Check.due("call 511", x.way(1, -1), 1);
        Check.due("call 512", x.told(8), 3);
    }
}
