/** Promises 16 to 27 but way: load, root, bind, bindAll, loose, drift, undo, journal, holds, keep, goBack; BREAKS, HURTS. */
public final class DeedsTest {
    // Call 0 of type 0, 1 of type 1, 2 of type 4 (an interface); bodies 0, 1, 2 of classes 0, 1, 2, body 3 of 4.
    private static final String SMALL = "c99;c0;c0;c1;i;c99,4;m0 0;m1 0;m2 0;m4 1;v0 0 0;v0 1 0;v1 4 1;n0 0;";

    public static void main(String[] args) {
        loading();
        roots();
        binding();
        breaksAndHurts();
        loosing();
        theJournal();
        drifting();
        driftByHand();
        undoing();
        imaging();
        holding();
        counting();
        refusedChangesNothing();
        Check.finish();
    }

    private static void loading() {
        EarlyBinder x = Check.told(SMALL);
        Check.due("load(3)", x.load(3), 3);
        Check.due("told(5)", x.told(5), Check.set(0, 1, 3));
        Check.due("load(3) again", x.load(3), Check.NOT);
        Check.due("load(0) above it", x.load(0), Check.NOT);
        Check.due("load(2)", x.load(2), 1);
        Check.due("load(5)", x.load(5), 2);
        Check.due("load(4)", x.load(4), Check.NOT);
        Check.due("told(5) all", x.told(5), 63);
        Check.due("load(6)", x.load(6), Check.UNKNOWN);
        Check.due("load(-1)", x.load(-1), Check.UNKNOWN);
    }

    private static void roots() {
        EarlyBinder x = Check.told(SMALL);
        Check.due("root(1, false)", x.root(1, false), Check.NOT);
        Check.due("root(1, true)", x.root(1, true), 2);
        Check.due("root(1, true) again", x.root(1, true), Check.NOT);
        Check.due("root(3, true)", x.root(3, true), 10);
        Check.due("told(6)", x.told(6), 10);
        Check.due("root(1, false)", x.root(1, false), 8);
        Check.due("root(4, true)", x.root(4, true), Check.UNKNOWN);
        Check.due("root(-1, false)", x.root(-1, false), Check.UNKNOWN);
    }

    private static void binding() {
        EarlyBinder x = Check.told(SMALL);
        Check.due("bind(0), nothing loaded", x.bind(0), Check.NOT);
        Check.due("bindAll(), nothing loaded", x.bindAll(), 0);
        x.load(0);
        Check.due("bind(0)", x.bind(0), 0);
        Check.due("bind(0) again", x.bind(0), Check.NOT);
        Check.due("call(0, 5)", x.call(0, 5), 0);
        Check.due("call(1, 5)", x.call(1, 5), Check.NONE);
        Check.due("bind(1), MAY is nothing", x.bind(1), Check.NOT);
        x.load(4);
        Check.due("bind(2): an interface alone leaves nothing", x.bind(2), Check.NOT);
        x.load(5);
        Check.due("told(11)", x.told(11), 1);
        Check.due("bindAll()", x.bindAll(), 1);
        Check.due("told(11) then", x.told(11), 5);
        Check.due("call(2, 5)", x.call(2, 5), 3);
        Check.due("load(3)", x.load(3), 2);
        Check.due("call 0 is withdrawn", x.told(11), 4);
        Check.due("bind(0): MAY is two", x.bind(0), Check.NOT);
        Check.due("bind(1)", x.bind(1), 1);
        Check.due("load(2) leaves 1, 2", x.load(2), 1);
        Check.due("told(11) at last", x.told(11), 6);
        Check.due("told(12)", x.told(12), 3);
        Check.due("told(13)", x.told(13), 1);
        Check.due("bind(3)", x.bind(3), Check.UNKNOWN);
        Check.due("bind(-1)", x.bind(-1), Check.UNKNOWN);
    }

    private static void breaksAndHurts() {
        EarlyBinder x = Check.told(SMALL);
        x.load(0);
        Check.due("BREAKS of one that is not bound", x.call(0, 6), 0);
        Check.due("HURTS, nothing bound", x.type(3, 5), 0);
        x.bind(0);
        Check.due("BREAKS", x.call(0, 6), Check.set(1, 2, 3));
        Check.due("HURTS of 1", x.type(1, 5), 1);
        Check.due("HURTS of 3", x.type(3, 5), 1);
        Check.due("HURTS of 0, loaded", x.type(0, 5), 0);
        Check.due("HURTS of 4", x.type(4, 5), 0);
        Check.due("HURTS of 5", x.type(5, 5), 0);
        Check.due("nothing changes by it", x.told(11), 1);
        Check.due("nor is loaded", x.told(5), 1);
        x.load(1);
        x.bind(1);
        Check.due("BREAKS of 1", x.call(1, 6), 0);
        // A class with the same body found, or with none, breaks nothing.
        x = Check.told("i;i;c99,0;c2;c99,0,1;m0 0;m1 0;v0 0 0;v0 1 0;");
        x.load(2);
        Check.due("bindAll()", x.bindAll(), 1);
        Check.due("BREAKS: none", x.call(0, 6), 0);
        Check.due("load(4)", x.load(4), 2);
        Check.due("still bound", x.told(11), 1);
        Check.due("MAY of call 1", x.call(1, 3), 0);
    }

    private static void loosing() {
        EarlyBinder x = Check.told(SMALL);
        x.load(0);
        Check.due("loose(0), not bound", x.loose(0), Check.NOT);
        x.bind(0);
        Check.due("loose(0)", x.loose(0), 0);
        Check.due("loose(0) again", x.loose(0), Check.NOT);
        Check.due("nothing is written", x.told(14), 1);
        Check.due("nor counted", x.told(13), 0);
        Check.due("told(11)", x.told(11), 0);
        x.load(1);
        Check.due("not withdrawn then", x.told(13), 0);
        Check.due("loose(3)", x.loose(3), Check.UNKNOWN);
        Check.due("loose(-1)", x.loose(-1), Check.UNKNOWN);
    }

    private static void theJournal() {
        // Calls 0, 1 of class 0, call 2 of class 2.
        EarlyBinder x = Check.told("c99;c0;c99;m0 0;m1 0;m2 0;v0 0 0;v0 0 0;v0 2 0;");
        x.load(0);
        x.load(2);
        Check.due("bindAll()", x.bindAll(), 3);
        Check.due("entries", x.told(14), 3);
        int[][] bound = {{2, 1, 2}, {1, 1, 0}, {0, 1, 0}};
        entries(x, bound);
        x.load(1);
        int[][] withdrawn = {{1, 0, 0}, {0, 0, 0}, {2, 1, 2}, {1, 1, 0}, {0, 1, 0}};
        entries(x, withdrawn);
        Check.due("told(14)", x.told(14), 5);
        Check.due("journal(0, -1)", x.journal(0, -1), Check.OUTSIDE);
        Check.due("journal(0, 3)", x.journal(0, 3), Check.OUTSIDE);
        Check.due("journal(99, 3)", x.journal(99, 3), Check.OUTSIDE);
        Check.due("journal(-1, 0)", x.journal(-1, 0), Check.NONE);
        Check.due("journal(greatest, 0)", x.journal(Integer.MAX_VALUE, 0), Check.NONE);
        Check.due("journal(least, 2)", x.journal(Integer.MIN_VALUE, 2), Check.NONE);
        for (int n = 0; n < 20; n++) {
            x.loose(2);
            x.bind(2);
            Check.due("told(14) goes up to 16", x.told(14), Math.min(16, 6 + n));
        }
        for (int i = 0; i < 16; i++) {
            Check.due("journal(" + i + ", 0) at last", x.journal(i, 0), 2);
        }
        Check.due("journal(16, 0)", x.journal(16, 0), Check.NONE);
        Check.due("told(12)", x.told(12), 23);
    }

    private static void entries(EarlyBinder x, int[][] rows) {
        for (int i = 0; i < rows.length; i++) {
            for (int what = 0; what <= 2; what++) {
                Check.due("journal(" + i + ", " + what + ")", x.journal(i, what), rows[i][what]);
            }
        }
        Check.due("journal behind the last", x.journal(rows.length, 0), Check.NONE);
    }

    private static void drifting() {
        EarlyBinder x = Check.told(SMALL);
        Check.due("drift(0, 1)", x.drift(0, 1), Check.OUTSIDE);
        Check.due("drift(41, 1)", x.drift(41, 1), Check.OUTSIDE);
        Check.due("drift(1, 0)", x.drift(1, 0), Check.OUTSIDE);
        Check.due("drift(1, 1000000)", x.drift(1, 1000000), Check.OUTSIDE);
        Check.due("drift(-1, -1)", x.drift(-1, -1), Check.OUTSIDE);
        Check.due("nothing to undo", x.told(15), 0);
        EarlyBinder none = new EarlyBinder();
        Check.due("drift(0, 1), no types", none.drift(0, 1), Check.OUTSIDE);
        Check.due("drift(40, 999999), no types", none.drift(40, 999999), Check.NOT);
        Check.due("drift(1, 1): X = 16807, 3 left", x.drift(1, 1), 0);
        Check.due("it can be undone", x.told(15), 1);
        Check.due("drift(40, 999999) can be", x.drift(40, 999999) >= 0 ? 1 : 0, 1);
        EarlyBinder bare = Check.told("c99;");
        for (int seed = 1; seed < 40; seed++) {
            Check.due("bare drift", bare.drift(40, seed) & ~1, 0);
        }
        Check.due("bare drift: loaded", bare.told(5), 1);
        Check.due("bare drift: roots", bare.told(6), 0);
    }

    /** The same lots drawn by hand with load, root, bind, loose lead to the same state. */
    private static void driftByHand() {
        for (int seed = 1; seed <= 300; seed++) {
            EarlyBinder x = Check.told(SMALL);
            EarlyBinder y = Check.told(SMALL);
            int n = 1 + seed % 40;
            int answer = x.drift(n, seed * 3333);
            long lot = seed * 3333;
            for (int i = 0; i < n; i++) {
                lot = lot * 16807 % 2147483647;
                int rest = (int) (lot / 4);
                switch ((int) (lot % 4)) {
                    case 0: y.load(rest % 6); break;
                    case 1: y.root(rest % 4, (y.told(6) >> rest % 4 & 1) == 0); break;
                    case 2: y.bind(rest % 3); break;
                    default: y.loose(rest % 3); break;
                }
            }
            y.keep(0);
            x.keep(0);
            Check.due("drift answers what is loaded", answer, y.told(5));
            Check.same("drift(" + n + ", " + seed * 3333 + ")", Check.all(x), Check.all(y));
        }
    }

    private static void undoing() {
        EarlyBinder x = Check.told(SMALL);
        String[] states = new String[12];
        for (int i = 0; i < 12; i++) {
            states[i] = noCount(Check.all(x), x.told(15));
            switch (i) {
                case 0: x.load(0); break;
                case 1: x.root(0, true); break;
                case 2: x.bind(0); break;
                case 3: x.loose(0); break;
                case 4: x.bindAll(); break;
                case 5: x.drift(1, 1); break;
                case 6: x.load(3); break;
                case 7: x.root(0, false); break;
                case 8: x.bindAll(); break;
                case 9: x.load(5); break;
                case 10: x.bind(2); break;
                default: x.drift(30, 5); break;
            }
            Check.due("told(15) after " + i, x.told(15), Math.min(8, i + 1));
        }
        Check.due("a refused one is not kept", x.load(0), Check.NOT);
        for (int i = 11; i >= 4; i--) {
            Check.due("undo() of " + i, x.undo(), i - 4);
            Check.same("after undo of " + i, noCount(Check.all(x), x.told(15)), states[i]);
        }
        Check.due("undo(): the oldest are lost", x.undo(), Check.NOT);
        Check.due("told(15)", x.told(15), 0);
        x.bindAll();
        x.undo();
        Check.same("again", noCount(Check.all(x), x.told(15)), states[4]);
    }

    /** What can be undone is counted, but is not of what is undone. */
    private static String noCount(String all, int count) {
        return all.replaceFirst(" " + count + " f", " f");
    }

    private static void imaging() {
        EarlyBinder x = Check.told(SMALL);
        Check.due("keep(2)", x.keep(2), Check.UNKNOWN);
        Check.due("keep(-1)", x.keep(-1), Check.UNKNOWN);
        Check.due("goBack(2)", x.goBack(2), Check.UNKNOWN);
        Check.due("goBack(-1)", x.goBack(-1), Check.UNKNOWN);
        Check.due("goBack(0), not kept", x.goBack(0), Check.NOT);
        x.load(0);
        x.bindAll();
        x.root(1, true);
        Check.due("goBack refused: undo stays", x.told(15), 3);
        Check.due("keep(0)", x.keep(0), 1);
        Check.due("keep: nothing can be undone", x.told(15), 0);
        Check.due("undo() after keep", x.undo(), Check.NOT);
        String first = Check.all(x);
        x.load(3);
        x.load(5);
        x.bindAll();
        x.root(0, true);
        x.keep(1);
        String second = Check.all(x);
        Check.due("goBack(0)", x.goBack(0), 1);
        Check.same("image 0", Check.all(x), first);
        x.load(2);
        Check.due("told(15) ahead of goBack", x.told(15), 1);
        Check.due("goBack(1)", x.goBack(1), 1);
        Check.due("goBack: nothing can be undone", x.told(15), 0);
        Check.same("image 1", Check.all(x), second);
        x.drift(40, 77);
        x.goBack(0);
        Check.same("image 0 again", Check.all(x), first);
        x.drift(40, 77);
        x.keep(0);
        String third = Check.all(x);
        x.goBack(1);
        Check.same("image 1 again", Check.all(x), second);
        x.goBack(0);
        Check.same("image 0 is another", Check.all(x), third);
    }

    private static void holding() {
        EarlyBinder x = Check.told(SMALL);
        x.load(0);
        Check.due("holds(0), not bound", x.holds(0), Check.NOT);
        Check.due("holds(3)", x.holds(3), Check.UNKNOWN);
        Check.due("holds(-1)", x.holds(-1), Check.UNKNOWN);
        x.bind(0);
        Check.due("holds(0), it does nothing", x.holds(0), 1);
        x.root(0, true);
        Check.due("call(0, 4)", x.call(0, 4), 1);
        Check.due("holds(0)", x.holds(0), 1);
        x.load(1);
        Check.due("holds(0), withdrawn", x.holds(0), Check.NOT);
    }

    private static void counting() {
        StringBuilder text = new StringBuilder("c99;m0 0;");
        for (int c = 0; c < 24; c++) {
            text.append("v0 0 0;");
        }
        EarlyBinder x = Check.told(text.toString());
        x.load(0);
        int bound = 0;
        for (int n = 0; n < 450; n++) {
            Check.due("bindAll()", x.bindAll(), 24);
            bound += 24;
            Check.due("told(12)", x.told(12), Math.min(bound, 9999));
            for (int c = 0; c < 24; c++) {
                x.loose(c);
            }
        }
        Check.due("told(11)", x.told(11), 0);
        x.bindAll();
        Check.due("24 calls bound", x.told(11), (1 << 24) - 1);
        withdrawnCount();
    }

    /** Withdrawn far more often than is counted: an image brings the loading back, never the count. */
    private static void withdrawnCount() {
        StringBuilder text = new StringBuilder("c99;c0;m0 0;m1 0;");
        for (int c = 0; c < 24; c++) {
            text.append("v0 0 0;");
        }
        EarlyBinder x = Check.told(text.toString());
        x.load(0);
        x.bindAll();
        Check.due("HURTS", x.type(1, 5), (1 << 24) - 1);
        x.load(1);
        Check.due("told(13)", x.told(13), 24);
        Check.due("told(14)", x.told(14), 16);
        for (int i = 0; i < 16; i++) {
            Check.due("withdrawn rising", x.journal(i, 0), 23 - i);
            Check.due("withdrawn", x.journal(i, 1), 0);
        }
        x.undo();
        Check.due("told(13) undone", x.told(13), 0);
        Check.due("journal undone", x.journal(0, 1), 1);
    }

    private static void refusedChangesNothing() {
        EarlyBinder x = Check.told(SMALL);
        x.load(0);
        x.root(0, true);
        x.bind(0);
        String ahead = Check.all(x);
        x.feed(-1);
        x.feed(256);
        x.load(0);
        x.load(9);
        x.root(0, true);
        x.root(1, false);
        x.root(9, true);
        x.bind(0);
        x.bind(1);
        x.bind(9);
        x.loose(1);
        x.loose(9);
        x.drift(0, 1);
        x.drift(1, 0);
        x.keep(2);
        x.goBack(2);
        x.goBack(0);
        Check.same("what is refused", Check.all(x), ahead);
        Check.due("undo() still undoes bind", x.undo(), 2);
        Check.due("told(11)", x.told(11), 0);
    }
}
