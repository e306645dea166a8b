/** Counts and prints the answers that are not as due; every test of the project ends with finish(). */
final class Check {
    static final int NONE = EarlyBinder.NONE, UNKNOWN = EarlyBinder.UNKNOWN, OUTSIDE = EarlyBinder.OUTSIDE,
            WRONG = EarlyBinder.WRONG, NOT = EarlyBinder.NOT, FULL = EarlyBinder.FULL;

    /** A call, or a row of calls, and its answer. */
    interface Deed {
        int on(EarlyBinder x);
    }

    private static int wrong = 0;
    private static int asked = 0;
    private static String sentence = "";

    private Check() {
    }

    /** The document's sentence that the answers from here on belong to. */
    static void of(String words) {
        sentence = "[" + words + "] ";
    }

    static void due(String call, long got, long want) {
        asked++;
        if (got != want) {
            wrong++;
            if (wrong <= 50) {
                System.out.println(sentence + call + " answered " + got + ", due is " + want);
            }
        }
    }

    static int wrong() {
        return wrong;
    }

    static void finish() {
        System.out.println(asked + " answers, " + wrong + " not as due");
        if (wrong != 0) {
            System.exit(1);
        }
    }

    static void feed(EarlyBinder x, String text) {
        for (int i = 0; i < text.length(); i++) {
            x.feed(text.charAt(i));
        }
    }

    /** A new object with this program told. */
    static EarlyBinder told(String text) {
        EarlyBinder x = new EarlyBinder();
        feed(x, text);
        int answer = x.program();
        if (answer < 0) {
            due("program() of " + text + " (a fault at " + x.fault() + ")", answer, 0);
        }
        return x;
    }

    /** A SET. */
    static int set(int... members) {
        int all = 0;
        for (int k : members) {
            all |= 1 << k;
        }
        return all;
    }

    /** Everything that can be asked, in one text: equal texts, equal states. */
    static String all(EarlyBinder x) {
        StringBuilder s = new StringBuilder();
        for (int what = 0; what <= 15; what++) {
            s.append(x.told(what)).append(' ');
        }
        s.append('f').append(x.fault());
        allTypes(x, s);
        allBodies(x, s);
        allCalls(x, s);
        allEntries(x, s);
        return s.toString();
    }

    private static void allTypes(EarlyBinder x, StringBuilder s) {
        for (int t = 0; t < x.told(0); t++) {
            s.append("\n  type ").append(t).append(':');
            for (int what = 0; what <= 5; what++) {
                s.append(' ').append(x.type(t, what));
            }
            s.append(' ').append(x.above(t)).append(' ').append(x.users(t)).append(' ').append(x.makers(t));
            for (int m = 0; m < 6; m++) {
                s.append(' ').append(x.found(t, m));
            }
            for (int u = 0; u < t; u++) {
                s.append(' ').append(x.common(t, u)).append(' ').append(x.isBelow(t, u));
            }
        }
    }

    private static void allBodies(EarlyBinder x, StringBuilder s) {
        for (int b = 0; b < x.told(1); b++) {
            s.append("\n  body ").append(b).append(':');
            for (int what = 0; what <= 6; what++) {
                s.append(' ').append(x.body(b, what));
            }
            s.append(' ').append(x.callers(b)).append(" way");
            for (int k = -1; k <= x.way(b, -1); k++) {
                s.append(' ').append(x.way(b, k));
            }
        }
    }

    private static void allCalls(EarlyBinder x, StringBuilder s) {
        for (int c = 0; c < x.told(3); c++) {
            s.append("\n  call ").append(c).append(':');
            for (int what = 0; what <= 6; what++) {
                s.append(' ').append(x.call(c, what));
            }
            s.append(' ').append(x.holds(c));
        }
    }

    private static void allEntries(EarlyBinder x, StringBuilder s) {
        s.append("\n  journal:");
        for (int i = 0; i <= x.told(14); i++) {
            for (int what = 0; what <= 2; what++) {
                s.append(' ').append(x.journal(i, what));
            }
        }
    }

    static void same(String label, String got, String want) {
        due(label + "\n  is  " + got + "\n  was " + want + "\n ", got.equals(want) ? 1 : 0, 1);
    }
}
