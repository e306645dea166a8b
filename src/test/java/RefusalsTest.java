import java.util.ArrayList;
import java.util.List;

/**
 * "What is refused changes nothing": every refusal of every call, in several states. An object that was refused
 * something is held against a twin that was not asked: all that can be asked, all that can be undone, both images, the
 * text, and what goes on from there. Each comparison has twins of its own, so that none is used for too many calls.
 */
public final class RefusalsTest {
    private static final int LEAST = Integer.MIN_VALUE, GREATEST = Integer.MAX_VALUE;
    private static final int UNKNOWN = Check.UNKNOWN, OUTSIDE = Check.OUTSIDE, WRONG = Check.WRONG, NOT = Check.NOT,
            FULL = Check.FULL;
    // Classes 0, 1 below 0, 2 below 1; interface 3; class 4 with 3. Calls of 0, 1, 3, and of 4, where nothing is found.
    private static final String SMALL = "c99;c0;c1;i;c99,3;m0 0;m1 0;m2 0;m3 1;v0 0 0;v0 1 0;v1 3 1;v0 4 5;n0 1;s2 0;";
    private static final String NEXT = "i;c99,0;m0 0;v0 0 0;";

    private record Refusal(String label, Check.Deed deed, int due) {
    }

    private interface Scene {
        EarlyBinder make();
    }

    private interface Probe {
        String of(EarlyBinder x);
    }

    public static void main(String[] args) {
        all("new", EarlyBinder::new, inNewObject());
        all("only a text", RefusalsTest::textOnly, inNewObject());
        all("told", RefusalsTest::justTold, always());
        all("told", RefusalsTest::justTold, whenJustTold());
        all("going on", RefusalsTest::goingOn, always());
        all("going on", RefusalsTest::goingOn, whenGoingOn());
        all("full text", RefusalsTest::fullText, always());
        all("full text", RefusalsTest::fullText, whenGoingOn());
        all("full text", RefusalsTest::fullText, whenFull());
        faultsLeaveAllElse();
        Check.finish();
    }

    // ---- scenes

    private static EarlyBinder textOnly() {
        EarlyBinder x = new EarlyBinder();
        Check.feed(x, NEXT);
        return x;
    }

    private static EarlyBinder justTold() {
        EarlyBinder x = Check.told(SMALL);
        Check.feed(x, "i");
        return x;
    }

    /** LOADED 0, 1, 3, ROOT 0, CALL 1 BOUND, CALL 0 WITHDRAWN; IMAGE 1 kept; more than eight deeds behind it. */
    private static EarlyBinder goingOn() {
        EarlyBinder x = Check.told(SMALL);
        x.load(0);
        x.bindAll();
        x.keep(1);
        x.load(1);
        for (int n = 0; n < 4; n++) {
            x.bind(1);
            x.loose(1);
        }
        x.load(3);
        x.bindAll();
        x.root(0, true);
        Check.feed(x, NEXT);
        return x;
    }

    private static EarlyBinder fullText() {
        EarlyBinder x = goingOn();
        Check.feed(x, " ".repeat(240 - NEXT.length()));
        return x;
    }

    // ---- refusals

    private static void add(List<Refusal> list, String label, int due, Check.Deed deed) {
        list.add(new Refusal(label, deed, due));
    }

    private static List<Refusal> inNewObject() {
        List<Refusal> list = new ArrayList<>();
        for (int n : new int[] {-1, 0, 1, LEAST, GREATEST}) {
            unknownTypes(list, n);
            unknownBodies(list, n);
            unknownCalls(list, n);
        }
        bounds(list);
        add(list, "drift(1, 1)", NOT, x -> x.drift(1, 1));
        add(list, "undo()", NOT, EarlyBinder::undo);
        add(list, "goBack(0)", NOT, x -> x.goBack(0));
        add(list, "goBack(1)", NOT, x -> x.goBack(1));
        return list;
    }

    /** What is refused in each state of SMALL. */
    private static List<Refusal> always() {
        List<Refusal> list = new ArrayList<>();
        for (int n : new int[] {-1, 12, 20, 24, 32, LEAST, GREATEST}) {
            unknownTypes(list, n);
            unknownBodies(list, n);
            unknownCalls(list, n);
        }
        unknownTypes(list, 5);
        unknownBodies(list, 4);
        unknownCalls(list, 4);
        bounds(list);
        wrongSorts(list);
        add(list, "goBack(0)", NOT, x -> x.goBack(0));
        add(list, "bind(3)", NOT, x -> x.bind(3));
        add(list, "loose(3)", NOT, x -> x.loose(3));
        add(list, "holds(3)", NOT, x -> x.holds(3));
        add(list, "loose(0)", NOT, x -> x.loose(0));
        add(list, "holds(0)", NOT, x -> x.holds(0));
        add(list, "bind(0)", NOT, x -> x.bind(0));
        add(list, "root(1, false)", NOT, x -> x.root(1, false));
        return list;
    }

    private static List<Refusal> whenJustTold() {
        List<Refusal> list = new ArrayList<>();
        add(list, "undo()", NOT, EarlyBinder::undo);
        add(list, "goBack(1)", NOT, x -> x.goBack(1));
        add(list, "bind(1)", NOT, x -> x.bind(1));
        add(list, "loose(1)", NOT, x -> x.loose(1));
        add(list, "root(0, false)", NOT, x -> x.root(0, false));
        return list;
    }

    private static List<Refusal> whenGoingOn() {
        List<Refusal> list = new ArrayList<>();
        add(list, "load(0)", NOT, x -> x.load(0));
        add(list, "load(1)", NOT, x -> x.load(1));
        add(list, "load(3)", NOT, x -> x.load(3));
        add(list, "root(0, true)", NOT, x -> x.root(0, true));
        add(list, "bind(1)", NOT, x -> x.bind(1));
        add(list, "bind(2)", NOT, x -> x.bind(2));
        add(list, "loose(2)", NOT, x -> x.loose(2));
        return list;
    }

    private static List<Refusal> whenFull() {
        List<Refusal> list = new ArrayList<>();
        for (int letter : new int[] {0, ' ', 'i', ';', 255}) {
            add(list, "feed(" + letter + ")", FULL, x -> x.feed(letter));
        }
        return list;
    }

    private static void unknownTypes(List<Refusal> list, int t) {
        add(list, "type(" + t + ", 0)", UNKNOWN, x -> x.type(t, 0));
        add(list, "type(" + t + ", 6)", UNKNOWN, x -> x.type(t, 6));
        add(list, "above(" + t + ")", UNKNOWN, x -> x.above(t));
        add(list, "users(" + t + ")", UNKNOWN, x -> x.users(t));
        add(list, "common(" + t + ", 0)", UNKNOWN, x -> x.common(t, 0));
        add(list, "common(3, " + t + ")", UNKNOWN, x -> x.common(3, t));
        add(list, "isBelow(" + t + ", 0)", UNKNOWN, x -> x.isBelow(t, 0));
        add(list, "isBelow(0, " + t + ")", UNKNOWN, x -> x.isBelow(0, t));
        add(list, "makers(" + t + ")", UNKNOWN, x -> x.makers(t));
        add(list, "found(" + t + ", 0)", UNKNOWN, x -> x.found(t, 0));
        add(list, "load(" + t + ")", UNKNOWN, x -> x.load(t));
    }

    private static void unknownBodies(List<Refusal> list, int b) {
        add(list, "body(" + b + ", 0)", UNKNOWN, x -> x.body(b, 0));
        add(list, "body(" + b + ", 7)", UNKNOWN, x -> x.body(b, 7));
        add(list, "callers(" + b + ")", UNKNOWN, x -> x.callers(b));
        add(list, "root(" + b + ", true)", UNKNOWN, x -> x.root(b, true));
        add(list, "root(" + b + ", false)", UNKNOWN, x -> x.root(b, false));
        add(list, "way(" + b + ", -1)", UNKNOWN, x -> x.way(b, -1));
        add(list, "way(" + b + ", -2)", UNKNOWN, x -> x.way(b, -2));
    }

    private static void unknownCalls(List<Refusal> list, int c) {
        add(list, "call(" + c + ", 0)", UNKNOWN, x -> x.call(c, 0));
        add(list, "call(" + c + ", 7)", UNKNOWN, x -> x.call(c, 7));
        add(list, "bind(" + c + ")", UNKNOWN, x -> x.bind(c));
        add(list, "loose(" + c + ")", UNKNOWN, x -> x.loose(c));
        add(list, "holds(" + c + ")", UNKNOWN, x -> x.holds(c));
    }

    private static void bounds(List<Refusal> list) {
        for (int n : new int[] {-1, 256, LEAST, GREATEST}) {
            add(list, "feed(" + n + ")", OUTSIDE, x -> x.feed(n));
            add(list, "told(" + n + ")", OUTSIDE, x -> x.told(n));
            add(list, "journal(0, " + n + ")", OUTSIDE, x -> x.journal(0, n));
            add(list, "journal(99, " + n + ")", OUTSIDE, x -> x.journal(99, n));
            add(list, "drift(" + n + ", 5)", OUTSIDE, x -> x.drift(n, 5));
            add(list, "keep(" + n + ")", UNKNOWN, x -> x.keep(n));
            add(list, "goBack(" + n + ")", UNKNOWN, x -> x.goBack(n));
        }
        add(list, "told(16)", OUTSIDE, x -> x.told(16));
        add(list, "journal(0, 3)", OUTSIDE, x -> x.journal(0, 3));
        add(list, "drift(0, 5)", OUTSIDE, x -> x.drift(0, 5));
        add(list, "drift(41, 5)", OUTSIDE, x -> x.drift(41, 5));
        add(list, "drift(5, 0)", OUTSIDE, x -> x.drift(5, 0));
        add(list, "drift(5, -1)", OUTSIDE, x -> x.drift(5, -1));
        add(list, "drift(5, 1000000)", OUTSIDE, x -> x.drift(5, 1000000));
        add(list, "keep(2)", UNKNOWN, x -> x.keep(2));
        add(list, "goBack(2)", UNKNOWN, x -> x.goBack(2));
    }

    private static void wrongSorts(List<Refusal> list) {
        for (int n : new int[] {-1, 8, LEAST, GREATEST}) {
            add(list, "type(0, " + n + ")", OUTSIDE, x -> x.type(0, n));
            add(list, "body(0, " + n + ")", OUTSIDE, x -> x.body(0, n));
            add(list, "call(0, " + n + ")", OUTSIDE, x -> x.call(0, n));
            add(list, "found(0, " + n + ")", UNKNOWN, x -> x.found(0, n));
            add(list, "found(3, " + n + ")", UNKNOWN, x -> x.found(3, n));
        }
        add(list, "type(0, 6)", OUTSIDE, x -> x.type(0, 6));
        add(list, "body(0, 7)", OUTSIDE, x -> x.body(0, 7));
        add(list, "call(0, 7)", OUTSIDE, x -> x.call(0, 7));
        add(list, "found(0, 6)", UNKNOWN, x -> x.found(0, 6));
        add(list, "way(0, -2)", OUTSIDE, x -> x.way(0, -2));
        add(list, "way(0, least)", OUTSIDE, x -> x.way(0, LEAST));
        add(list, "above(3)", WRONG, x -> x.above(3));
        add(list, "users(0)", WRONG, x -> x.users(0));
        add(list, "common(3, 0)", WRONG, x -> x.common(3, 0));
        add(list, "common(0, 3)", WRONG, x -> x.common(0, 3));
        add(list, "common(0, 0)", UNKNOWN, x -> x.common(0, 0));
        add(list, "common(3, 3)", UNKNOWN, x -> x.common(3, 3));
        add(list, "isBelow(2, 2)", UNKNOWN, x -> x.isBelow(2, 2));
        add(list, "makers(3)", WRONG, x -> x.makers(3));
        add(list, "found(3, 0)", WRONG, x -> x.found(3, 0));
    }

    // ---- what a twin is asked

    private static String undone(EarlyBinder x) {
        StringBuilder s = new StringBuilder();
        for (int n = 0; n < 10; n++) {
            s.append(x.undo()).append(':').append(inShort(x)).append('\n');
        }
        return s.toString();
    }

    private static String inShort(EarlyBinder x) {
        StringBuilder s = new StringBuilder();
        for (int what = 4; what <= 15; what++) {
            s.append(x.told(what)).append(' ');
        }
        for (int i = 0; i < x.told(14); i++) {
            s.append(x.journal(i, 0)).append(x.journal(i, 1)).append(x.journal(i, 2)).append(' ');
        }
        return s.toString();
    }

    private static String image(EarlyBinder x, int i) {
        return x.goBack(i) + "\n" + inShort(x);
    }

    private static String nextProgram(EarlyBinder x) {
        return x.program() + " " + x.fault() + "\n" + Check.all(x);
    }

    private static String goesOn(EarlyBinder x) {
        return x.feed(';') + " " + x.drift(40, 4711) + " " + x.bindAll() + "\n" + inShort(x);
    }

    private static void all(String label, Scene scene, List<Refusal> refusals) {
        Check.of("Terms: What is refused changes nothing");
        Probe[] probes = {Check::all, RefusalsTest::undone, x -> image(x, 0), x -> image(x, 1),
            RefusalsTest::nextProgram, RefusalsTest::goesOn};
        for (Probe probe : probes) {
            String due = probe.of(scene.make());
            for (Refusal refusal : refusals) {
                EarlyBinder x = scene.make();
                Check.due(label + ": " + refusal.label, refusal.deed.on(x), refusal.due);
                Check.same(label + ", then " + refusal.label, probe.of(x), due);
            }
        }
    }

    // ---- a FAULT is no refusal, but for the text and fault() it changes as little

    private static void faultsLeaveAllElse() {
        Check.of("3 program: -10 less the number of its FAULT (all else is as it was)");
        String[] faulty = {"x", "i;c99,0;m0 0;v0 0 0;n", "c0;", "i;i;m0 0;m1 0;v0 99 0;", "i;".repeat(13),
            "c99;m0 0;" + "v0 0 0;".repeat(24) + "n0 0;", "i;c0;", "c99;m0 0;n0 0;s0 0;"};
        int[] answers = {-11, -11, -12, -12, -13, -13, -14, -14};
        Probe[] probes = {x -> Check.all(x).replaceFirst("f-?[0-9]+", "f"), RefusalsTest::undone, x -> image(x, 0),
            x -> image(x, 1), RefusalsTest::nextProgram, RefusalsTest::goesOn};
        Scene[] scenes = {EarlyBinder::new, () -> Check.told(SMALL), RefusalsTest::goingOnWithoutText};
        for (Scene scene : scenes) {
            for (Probe probe : probes) {
                String due = probe.of(scene.make());
                for (int n = 0; n < faulty.length; n++) {
                    EarlyBinder x = scene.make();
                    Check.feed(x, faulty[n]);
                    Check.due("program() of '" + faulty[n] + "'", x.program(), answers[n]);
                    Check.same("then '" + faulty[n] + "'", probe.of(x), due);
                }
            }
        }
    }

    private static EarlyBinder goingOnWithoutText() {
        EarlyBinder x = goingOn();
        Check.feed(x, "x");
        Check.due("program() of '" + NEXT + "x'", x.program(), -11);
        return x;
    }
}
