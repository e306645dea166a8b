/** Counts and prints the answers that are not as due; every test of the project ends with finish(). */
final class Check {
    static final int NONE = EarlyBinder.NONE, UNKNOWN = EarlyBinder.UNKNOWN, OUTSIDE = EarlyBinder.OUTSIDE,
            WRONG = EarlyBinder.WRONG, NOT = EarlyBinder.NOT, FULL = EarlyBinder.FULL;

    private static int wrong = 0;
    private static int asked = 0;

    private Check() {
    }

    static void due(String call, long got, long want) {
        asked++;
        if (got != want) {
            wrong++;
            if (wrong <= 50) {
                System.out.println(call + " answered " + got + ", due is " + want);
            }
        }
    }

    static int wrong() {
        return wrong;
    }

    static void finish() {
        System.out.println(asked + " answers, " + wrong + " not as due");
        if (wrong != 0) {
            System.exit(1);
        }
    }

    static void feed(EarlyBinder x, String text) {
        for (int i = 0; i < text.length(); i++) {
            x.feed(text.charAt(i));
        }
    }

    /** A new object with this program told. */
    static EarlyBinder told(String text) {
        EarlyBinder x = new EarlyBinder();
        feed(x, text);
        int answer = x.program();
        if (answer < 0) {
            due("program() of " + text + " (a fault at " + x.fault() + ")", answer, 0);
        }
        return x;
    }

    /** A SET. */
    static int set(int... members) {
        int all = 0;
        for (int k : members) {
            all |= 1 << k;
        }
        return all;
    }

    /** Everything that can be asked, in one text: equal texts, equal states. */
    static String all(EarlyBinder x) {
        StringBuilder s = new StringBuilder();
        for (int what = 0; what <= 15; what++) {
            s.append(x.told(what)).append(' ');
        }
        s.append('f').append(x.fault());
        for (int t = 0; t < x.told(0); t++) {
            for (int what = 0; what <= 5; what++) {
                s.append(' ').append(x.type(t, what));
            }
        }
        for (int b = 0; b < x.told(1); b++) {
            for (int what = 0; what <= 6; what++) {
                s.append(' ').append(x.body(b, what));
            }
            s.append(' ').append(x.callers(b));
        }
        for (int c = 0; c < x.told(3); c++) {
            for (int what = 0; what <= 6; what++) {
                s.append(' ').append(x.call(c, what));
            }
        }
        for (int i = 0; i <= 16; i++) {
            for (int what = 0; what <= 2; what++) {
                s.append(' ').append(x.journal(i, what));
            }
        }
        return s.toString();
    }

    static void same(String label, String got, String want) {
        due(label + "\n  is  " + got + "\n  was " + want + "\n ", got.equals(want) ? 1 : 0, 1);
    }
}
