import java.util.ArrayList;
import java.util.HashSet;
import java.util.List;
import java.util.Random;
import java.util.Set;

/** Runs of calls drawn by lot (always the same), held against the Model: all promises, wrong inputs, faulty texts. */
public final class ModelTest {
    private static final int RUNS = 1500, CALLS = 240;
    private static final int[] EDGES = {-2, -1, 0, 1, 2, 5, 6, 11, 12, 15, 16, 19, 20, 23, 24, 31, 32, 99,
            Integer.MAX_VALUE, Integer.MIN_VALUE};
    private static final String LETTERS = "cimnvs0123456789,;  ;;x99";

    private final Random lots;
    private final EarlyBinder x = new EarlyBinder();
    private final Model y = new Model();
    private final StringBuilder calls = new StringBuilder();

    private ModelTest(long seed) {
        lots = new Random(seed);
    }

    public static void main(String[] args) {
        for (int run = 0; run < RUNS && Check.wrong() == 0; run++) {
            new ModelTest(run).run();
        }
        Check.finish();
    }

    private void run() {
        tell();
        for (int n = 0; n < CALLS && Check.wrong() == 0; n++) {
            int pick = lots.nextInt(100);
            if (pick < 1) {
                tell();
            } else if (pick < 40) {
                deed();
            } else {
                question();
            }
        }
        if (Check.wrong() > 0) {
            System.out.println("after: " + calls);
        }
    }

    private void due(String call, int got, int want) {
        calls.append(call).append(' ');
        Check.due(call, got, want);
    }

    private void tell() {
        String text = lots.nextInt(4) == 0 ? spoilt(drawn()) : drawn();
        calls.append("\n'").append(text).append("' ");
        for (int i = 0; i < text.length(); i++) {
            Check.due("feed", x.feed(text.charAt(i)), y.feed(text.charAt(i)));
        }
        due("told(4)", x.told(4), y.told(4));
        due("program()", x.program(), y.program());
        due("fault()", x.fault(), y.fault());
    }

    /** Either all types, then all bodies, then all steps, or clauses as they come. */
    private String drawn() {
        StringBuilder s = new StringBuilder();
        told = new Told(1 + lots.nextInt(3), lots.nextInt(20) == 0);
        boolean isMixed = lots.nextBoolean();
        int kinds = 1 + lots.nextInt(lots.nextInt(6) == 0 ? 13 : 10);
        int bodies = kinds + 3 + lots.nextInt(lots.nextInt(6) == 0 ? 20 : 14);
        for (int n = 0; n < 60 && s.length() < 225; n++) {
            int place = isMixed && n > 0 ? lots.nextInt(bodies + 20) : n;
            if (place < kinds) {
                s.append(aType());
            } else if (place < bodies) {
                s.append(aBody());
            } else {
                s.append(aStep());
            }
        }
        return s.toString();
    }

    /** What is told so far of the text that is drawn. */
    private static final class Told {
        final int messages;
        final boolean isOver;
        int steps = 0;
        final List<Boolean> isClass = new ArrayList<>();
        final List<Boolean> isBelowOne = new ArrayList<>();
        final List<Integer> owners = new ArrayList<>();
        final Set<Integer> has = new HashSet<>();

        /** isOver: the text may tell one too many. */
        Told(int messages, boolean isOver) {
            this.messages = messages;
            this.isOver = isOver;
        }
    }

    private Told told;

    private String aType() {
        if (told.isClass.size() == 12 && !told.isOver) {
            return "";
        }
        boolean isClass = lots.nextInt(3) > 0;
        int parent = isClass && lots.nextInt(4) > 0 ? one(true) : -1;
        String clause = !isClass ? "i" : "c" + (parent < 0 ? "99" : figures(parent));
        int first = lots.nextInt(3) > 0 ? one(false) : -1;
        int second = lots.nextBoolean() ? one(false) : -1;
        if (first >= 0) {
            clause += (isClass ? "," : "") + figures(first);
            clause += second >= 0 && second != first ? "," + figures(second) : "";
        }
        told.isClass.add(isClass);
        told.isBelowOne.add(parent >= 0);
        return clause + blank() + ";";
    }

    private String aBody() {
        int t = lots.nextInt(told.isClass.size());
        int m = lots.nextInt(told.messages);
        if (told.owners.size() == 20 && !told.isOver || !told.has.add(t * 6 + m)) {
            return "";
        }
        told.owners.add(t);
        return "m" + blank() + figures(t) + " " + figures(m) + ";";
    }

    private String aStep() {
        if (told.owners.isEmpty() || told.steps == 24 && !told.isOver) {
            return "";
        }
        told.steps++;
        int b = lots.nextInt(told.owners.size());
        int t = lots.nextInt(told.isClass.size());
        String message = " " + figures(lots.nextInt(told.messages)) + ";";
        int sort = lots.nextInt(5);
        if (sort < 2 && told.isClass.get(t)) {
            return "n" + figures(b) + " " + figures(t) + ";" + blank();
        }
        if (sort == 2 && told.isBelowOne.get(told.owners.get(b))) {
            return "s" + figures(b) + message;
        }
        return "v" + figures(b) + " " + figures(t) + message;
    }

    private String figures(int number) {
        return number < 10 && lots.nextInt(30) == 0 ? "0" + number : "" + number;
    }

    private String blank() {
        return lots.nextInt(20) == 0 ? " " : "";
    }

    private int one(boolean isClass) {
        for (int n = 0; n < 8 && !told.isClass.isEmpty(); n++) {
            int t = lots.nextInt(told.isClass.size());
            if (told.isClass.get(t) == isClass) {
                return t;
            }
        }
        return -1;
    }

    private String spoilt(String text) {
        StringBuilder s = new StringBuilder(text);
        for (int n = 0; n <= lots.nextInt(3) && s.length() > 0; n++) {
            char letter = LETTERS.charAt(lots.nextInt(LETTERS.length()));
            int place = lots.nextInt(s.length());
            switch (lots.nextInt(4)) {
                case 0: s.setCharAt(place, letter); break;
                case 1: s.insert(place, letter); break;
                case 2: s.deleteCharAt(place); break;
                default: s.setLength(Math.max(1, place)); break;
            }
        }
        return s.toString();
    }

    /** Mostly a number that there is, now and then one at or beyond an edge. */
    private int number(int many) {
        if (many > 0 && lots.nextInt(12) > 0) {
            return lots.nextInt(many);
        }
        return EDGES[lots.nextInt(EDGES.length)];
    }

    private void deed() {
        int t = number(x.told(0));
        int b = number(x.told(1));
        int c = number(x.told(3));
        int i = number(2);
        switch (lots.nextInt(14)) {
            case 0: case 1: case 2: due("load(" + t + ")", x.load(t), y.load(t)); break;
            case 3: case 4: due("root(" + b + ", true)", x.root(b, true), y.root(b, true)); break;
            case 5: due("root(" + b + ", false)", x.root(b, false), y.root(b, false)); break;
            case 6: case 7: due("bind(" + c + ")", x.bind(c), y.bind(c)); break;
            case 8: due("bindAll()", x.bindAll(), y.bindAll()); break;
            case 9: due("loose(" + c + ")", x.loose(c), y.loose(c)); break;
            case 10: {
                int n = lots.nextInt(8) == 0 ? number(50) : 1 + lots.nextInt(12);
                int seed = lots.nextInt(8) == 0 ? number(1100000) : 1 + lots.nextInt(999999);
                due("drift(" + n + ", " + seed + ")", x.drift(n, seed), y.drift(n, seed));
                break;
            }
            case 11: due("undo()", x.undo(), y.undo()); break;
            case 12: due("keep(" + i + ")", x.keep(i), y.keep(i)); break;
            default: due("goBack(" + i + ")", x.goBack(i), y.goBack(i)); break;
        }
    }

    private void question() {
        int t = number(x.told(0));
        int u = number(x.told(0));
        int b = number(x.told(1));
        int c = number(x.told(3));
        int w = number(7);
        switch (lots.nextInt(16)) {
            case 0: case 1: {
                int what = number(16);
                due("told(" + what + ")", x.told(what), y.told(what));
                break;
            }
            case 2: due("type(" + t + ", " + w + ")", x.type(t, w), y.type(t, w)); break;
            case 3: due("above(" + t + ")", x.above(t), y.above(t)); break;
            case 4: due("users(" + t + ")", x.users(t), y.users(t)); break;
            case 5: due("common(" + t + ", " + u + ")", x.common(t, u), y.common(t, u)); break;
            case 6: due("isBelow(" + t + ", " + u + ")", x.isBelow(t, u), y.isBelow(t, u)); break;
            case 7: due("makers(" + t + ")", x.makers(t), y.makers(t)); break;
            case 8: {
                int m = number(6);
                due("found(" + t + ", " + m + ")", x.found(t, m), y.found(t, m));
                break;
            }
            case 9: due("body(" + b + ", " + w + ")", x.body(b, w), y.body(b, w)); break;
            case 10: due("callers(" + b + ")", x.callers(b), y.callers(b)); break;
            case 11: case 12: due("call(" + c + ", " + w + ")", x.call(c, w), y.call(c, w)); break;
            case 13: {
                int k = number(5) - lots.nextInt(2);
                due("way(" + b + ", " + k + ")", x.way(b, k), y.way(b, k));
                break;
            }
            case 14: {
                int i = number(17);
                int what = number(3);
                due("journal(" + i + ", " + what + ")", x.journal(i, what), y.journal(i, what));
                break;
            }
            default: due("holds(" + c + ")", x.holds(c), y.holds(c)); break;
        }
    }
}
