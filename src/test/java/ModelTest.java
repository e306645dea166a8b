import java.util.Random;

/** Runs of calls drawn by lot (always the same), held against the Model: all promises, wrong inputs, faulty texts. */
public final class ModelTest {
    private static final int RUNS = 1500, CALLS = 240;
    private static final int[] EDGES = {-2, -1, 0, 1, 2, 5, 6, 11, 12, 15, 16, 19, 20, 23, 24, 31, 32, 99,
            Integer.MAX_VALUE, Integer.MIN_VALUE};
    private static final String LETTERS = "cimnvs0123456789,;  ;;x99";

    private final Random lots;
    private final EarlyBinder x = new EarlyBinder();
    private final Model y = new Model();
    private final StringBuilder calls = new StringBuilder();

    private ModelTest(long seed) {
        lots = new Random(seed);
    }

    public static void main(String[] args) {
        for (int run = 0; run < RUNS && Check.wrong() == 0; run++) {
            new ModelTest(run).run();
        }
        Check.finish();
    }

    private void run() {
        tell();
        for (int n = 0; n < CALLS && Check.wrong() == 0; n++) {
            int pick = lots.nextInt(100);
            if (pick < 1) {
                tell();
            } else if (pick < 40) {
                deed();
            } else {
                question();
            }
        }
        if (Check.wrong() > 0) {
            System.out.println("after: " + calls);
        }
    }

    private void due(String call, int got, int want) {
        calls.append(call).append(' ');
        Check.due(call, got, want);
    }

    private void tell() {
        String text = lots.nextInt(4) == 0 ? spoilt(drawn()) : drawn();
        calls.append("\n'").append(text).append("' ");
        for (int i = 0; i < text.length(); i++) {
            Check.due("feed", x.feed(text.charAt(i)), y.feed(text.charAt(i)));
        }
        due("told(4)", x.told(4), y.told(4));
        due("program()", x.program(), y.program());
        due("fault()", x.fault(), y.fault());
    }

    private String drawn() {
        StringBuilder s = new StringBuilder();
        int kinds = 1 + lots.nextInt(lots.nextInt(6) == 0 ? 13 : 10);
        boolean[] isClass = new boolean[kinds];
        for (int t = 0; t < kinds; t++) {
            isClass[t] = lots.nextInt(3) > 0;
            s.append(isClass[t] ? "c" : "i");
            int parent = one(isClass, t, true);
            if (isClass[t]) {
                s.append(parent < 0 || lots.nextInt(4) == 0 ? 99 : parent);
            }
            int first = one(isClass, t, false);
            if (first >= 0 && lots.nextInt(3) > 0) {
                s.append(isClass[t] ? "," : "").append(first);
                int second = one(isClass, t, false);
                if (second != first && lots.nextBoolean()) {
                    s.append(',').append(second);
                }
            }
            s.append(';');
        }
        int messages = 1 + lots.nextInt(3);
        boolean[] has = new boolean[kinds * 6];
        int bodies = 0;
        int[] owner = new int[kinds * 6];
        for (int n = 0; n < 3 + lots.nextInt(14); n++) {
            int t = lots.nextInt(kinds);
            int m = lots.nextInt(messages);
            if (!has[t * 6 + m]) {
                has[t * 6 + m] = true;
                owner[bodies++] = t;
                s.append('m').append(t).append(' ').append(m).append(';');
            }
        }
        for (int n = 0; n < 20 && s.length() < 232; n++) {
            int b = lots.nextInt(bodies);
            int t = lots.nextInt(kinds);
            int m = lots.nextInt(messages);
            int sort = lots.nextInt(5);
            if (sort < 2 && isClass[t]) {
                s.append('n').append(b).append(' ').append(t).append(';');
            } else if (sort == 2 && isBelowOne(s, owner[b])) {
                s.append('s').append(b).append(' ').append(m).append(';');
            } else {
                s.append('v').append(b).append(' ').append(t).append(' ').append(m).append(';');
            }
        }
        return s.toString();
    }

    private static boolean isBelowOne(StringBuilder s, int t) {
        String clause = s.toString().split(";")[t];
        return clause.startsWith("c") && !clause.startsWith("c99");
    }

    private int one(boolean[] isClass, int below, boolean sort) {
        for (int n = 0; n < 8 && below > 0; n++) {
            int t = lots.nextInt(below);
            if (isClass[t] == sort) {
                return t;
            }
        }
        return -1;
    }

    private String spoilt(String text) {
        StringBuilder s = new StringBuilder(text);
        for (int n = 0; n <= lots.nextInt(3); n++) {
            char letter = LETTERS.charAt(lots.nextInt(LETTERS.length()));
            int place = lots.nextInt(s.length());
            switch (lots.nextInt(4)) {
                case 0: s.setCharAt(place, letter); break;
                case 1: s.insert(place, letter); break;
                case 2: s.deleteCharAt(place); break;
                default: s.setLength(Math.max(1, place)); break;
            }
        }
        return s.toString();
    }

    /** Mostly a number that there is, now and then one at or beyond an edge. */
    private int number(int many) {
        if (many > 0 && lots.nextInt(12) > 0) {
            return lots.nextInt(many);
        }
        return EDGES[lots.nextInt(EDGES.length)];
    }

    private void deed() {
        int t = number(x.told(0));
        int b = number(x.told(1));
        int c = number(x.told(3));
        int i = number(2);
        switch (lots.nextInt(14)) {
            case 0: case 1: case 2: due("load(" + t + ")", x.load(t), y.load(t)); break;
            case 3: case 4: due("root(" + b + ", true)", x.root(b, true), y.root(b, true)); break;
            case 5: due("root(" + b + ", false)", x.root(b, false), y.root(b, false)); break;
            case 6: case 7: due("bind(" + c + ")", x.bind(c), y.bind(c)); break;
            case 8: due("bindAll()", x.bindAll(), y.bindAll()); break;
            case 9: due("loose(" + c + ")", x.loose(c), y.loose(c)); break;
            case 10: {
                int n = lots.nextInt(8) == 0 ? number(50) : 1 + lots.nextInt(12);
                int seed = lots.nextInt(8) == 0 ? number(1100000) : 1 + lots.nextInt(999999);
                due("drift(" + n + ", " + seed + ")", x.drift(n, seed), y.drift(n, seed));
                break;
            }
            case 11: due("undo()", x.undo(), y.undo()); break;
            case 12: due("keep(" + i + ")", x.keep(i), y.keep(i)); break;
            default: due("goBack(" + i + ")", x.goBack(i), y.goBack(i)); break;
        }
    }

    private void question() {
        int t = number(x.told(0));
        int u = number(x.told(0));
        int b = number(x.told(1));
        int c = number(x.told(3));
        int w = number(7);
        switch (lots.nextInt(16)) {
            case 0: case 1: {
                int what = number(16);
                due("told(" + what + ")", x.told(what), y.told(what));
                break;
            }
            case 2: due("type(" + t + ", " + w + ")", x.type(t, w), y.type(t, w)); break;
            case 3: due("above(" + t + ")", x.above(t), y.above(t)); break;
            case 4: due("users(" + t + ")", x.users(t), y.users(t)); break;
            case 5: due("common(" + t + ", " + u + ")", x.common(t, u), y.common(t, u)); break;
            case 6: due("isBelow(" + t + ", " + u + ")", x.isBelow(t, u), y.isBelow(t, u)); break;
            case 7: due("makers(" + t + ")", x.makers(t), y.makers(t)); break;
            case 8: {
                int m = number(6);
                due("found(" + t + ", " + m + ")", x.found(t, m), y.found(t, m));
                break;
            }
            case 9: due("body(" + b + ", " + w + ")", x.body(b, w), y.body(b, w)); break;
            case 10: due("callers(" + b + ")", x.callers(b), y.callers(b)); break;
            case 11: case 12: due("call(" + c + ", " + w + ")", x.call(c, w), y.call(c, w)); break;
            case 13: {
                int k = number(5) - lots.nextInt(2);
                due("way(" + b + ", " + k + ")", x.way(b, k), y.way(b, k));
                break;
            }
            case 14: {
                int i = number(17);
                int what = number(3);
                due("journal(" + i + ", " + what + ")", x.journal(i, what), y.journal(i, what));
                break;
            }
            default: due("holds(" + c + ")", x.holds(c), y.holds(c)); break;
        }
    }
}
