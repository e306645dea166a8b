/** Promises 13 to 15, told's 7 to 10, way: REACHED, MADE, DEAD, COULD, body, callers, call. */
public final class CallsTest {
    public static void main(String[] args) {
        onlyWhatIsMadeCounts();
        onlyWhatIsLoadedCounts();
        superCalls();
        ringsAndWays();
        firstWay();
        longRing();
        deadAndCould();
        refusals();
        Check.finish();
    }

    private static void onlyWhatIsMadeCounts() {
        // Body 0 of class 0 makes 1 and calls message 1 of 0; 2 is never made; 1 makes 3 once it is come to.
        EarlyBinder x = Check.told("c99;c0;c0;c0;m0 0;m0 1;m1 1;m2 1;m3 1;n0 1;v0 0 1;n2 3;v3 0 0;");
        x.load(1);
        x.load(2);
        x.load(3);
        Check.due("no roots: reached", x.told(8), 0);
        Check.due("no roots: made", x.told(7), 0);
        Check.due("no roots: could", x.told(10), 0);
        Check.due("no roots: dead", x.told(9), 31);
        Check.due("no roots: MAY", x.call(0, 3), Check.set(1, 2, 3, 4));
        Check.due("no roots: DOES", x.call(0, 4), 0);
        x.root(0, true);
        Check.due("made", x.told(7), Check.set(1, 3));
        Check.due("reached", x.told(8), Check.set(0, 2, 4));
        Check.due("dead", x.told(9), Check.set(1, 3));
        Check.due("could", x.told(10), 31);
        Check.due("DOES", x.call(0, 4), Check.set(2, 4));
        Check.due("DOES of one not reached", x.call(1, 4), 0);
        Check.due("MAY of one not reached", x.call(1, 3), Check.set(0));
        Check.due("body(0, 3)", x.body(0, 3), 1);
        Check.due("body(1, 3)", x.body(1, 3), 0);
        Check.due("body(0, 6)", x.body(0, 6), Check.set(2, 4));
        Check.due("body(3, 6) not reached", x.body(3, 6), 0);
        Check.due("callers(4)", x.callers(4), Check.set(0));
        Check.due("callers(0): body 3 is not reached", x.callers(0), 0);
        x.root(3, true);
        Check.due("callers(0): body 3 is a root", x.callers(0), Check.set(3));
        Check.due("DOES of call 1", x.call(1, 4), Check.set(0));
    }

    private static void onlyWhatIsLoadedCounts() {
        EarlyBinder x = Check.told("c99;c0;i;c1,2;m0 0;m1 0;m2 1;n0 1;n0 3;v0 0 0;v0 2 1;");
        x.root(0, true);
        x.root(2, true);
        Check.due("roots of what is not loaded", x.told(8), 0);
        Check.due("DEAD, nothing loaded", x.told(9), 0);
        x.load(0);
        Check.due("loaded root", x.told(8), Check.set(0));
        Check.due("made: nothing loaded below", x.told(7), 0);
        Check.due("way to a root that is not loaded", x.way(2, -1), Check.NONE);
        x.load(2);
        Check.due("root of an interface", x.told(8), Check.set(0, 2));
        x.root(2, false);
        x.load(1);
        Check.due("made 1", x.told(7), Check.set(1));
        Check.due("reached by 1", x.told(8), Check.set(0, 1));
        Check.due("MAY of the interface's call", x.call(1, 3), 0);
        x.load(3);
        Check.due("made 1, 3", x.told(7), Check.set(1, 3));
        Check.due("the interface's body", x.told(8), Check.set(0, 1, 2));
        Check.due("MAY of the interface's call then", x.call(1, 3), Check.set(2));
    }

    private static void superCalls() {
        // 0 has an interface's body for message 1; 2's body calls both messages of the class above it.
        EarlyBinder x = Check.told("i;c99,0;c1;c2;m0 1;m1 0;m3 0;m3 1;s2 0;s2 1;s2 2;s3 1;");
        x.load(3);
        x.root(2, true);
        Check.due("reached by super", x.told(8), Check.set(0, 1, 2));
        Check.due("made by super", x.told(7), 0);
        Check.due("body(2, 6)", x.body(2, 6), Check.set(0, 1));
        Check.due("body(3, 6)", x.body(3, 6), 0);
        Check.due("callers(0)", x.callers(0), Check.set(2));
        Check.due("calls are v alone", x.told(3), 0);
        Check.due("way(1, -1)", x.way(1, -1), 1);
        Check.due("body(3, 5)", x.body(3, 5), 0);
        Check.due("body(2, 5)", x.body(2, 5), 1);
        Check.due("body(1, 5)", x.body(1, 5), Check.NONE);
    }

    private static void ringsAndWays() {
        // 0 > 1 > 2 > 1, 2 > 3, 4 > 4 (all of one class, made by 0)
        EarlyBinder x = Check.told("c99;m0 0;m0 1;m0 2;m0 3;m0 4;n0 0;v0 0 1;v1 0 2;v2 0 1;v2 0 3;v4 0 4;");
        x.load(0);
        x.root(0, true);
        int[] ring = {0, 1, 1, 0, 0};
        int[] way = {0, 1, 2, 3, Check.NONE};
        for (int b = 0; b < 5; b++) {
            Check.due("RING of " + b, x.body(b, 4), ring[b]);
            Check.due("way(" + b + ", NONE)", x.way(b, -1), way[b]);
            for (int k = 0; k < 5; k++) {
                int due = way[b] == Check.NONE || k > way[b] ? Check.NONE : k;
                Check.due("way(" + b + ", " + k + ")", x.way(b, k), due);
            }
            Check.due("way(" + b + ", greatest)", x.way(b, Integer.MAX_VALUE), Check.NONE);
        }
        x.root(4, true);
        Check.due("RING of a body that calls itself", x.body(4, 4), 1);
        Check.due("way to a root on a ring", x.way(4, -1), 0);
        Check.due("way(4, 0)", x.way(4, 0), 4);
        Check.due("way(4, 1)", x.way(4, 1), Check.NONE);
        x.root(2, true);
        Check.due("a nearer root", x.way(3, -1), 1);
        Check.due("its row", x.way(3, 0), 2);
        Check.due("way(1, -1) from two roots", x.way(1, -1), 1);
        Check.due("the least root", x.way(1, 0), 0);
    }

    private static void firstWay() {
        // 5 is come to from 0 by 2 > 4 and 3 > 1, and from 1's side: the row is least body by body.
        EarlyBinder x = Check.told("c99;c99;m0 0;m0 1;m0 2;m0 3;m0 4;m0 5;n0 0;v0 0 3;v0 0 2;v3 0 1;v2 0 4;v1 0 5;v4 0 5;");
        x.load(0);
        x.root(0, true);
        Check.due("how many", x.way(5, -1), 3);
        Check.due("0th", x.way(5, 0), 0);
        Check.due("1st: 2 is less than 3", x.way(5, 1), 2);
        Check.due("2nd: so 4, though 1 is less", x.way(5, 2), 4);
        Check.due("3rd", x.way(5, 3), 5);
        Check.due("4th", x.way(5, 4), Check.NONE);
        x.root(3, true);
        Check.due("a nearer root: how many", x.way(5, -1), 2);
        Check.due("a nearer root: 0th", x.way(5, 0), 3);
        Check.due("a nearer root: 1st", x.way(5, 1), 1);
        x.root(2, true);
        Check.due("two as near: 0th", x.way(5, 0), 2);
        Check.due("two as near: 1st", x.way(5, 1), 4);
        x.root(1, true);
        Check.due("nearest: how many", x.way(5, -1), 1);
        Check.due("nearest: 0th", x.way(5, 0), 1);
        Check.due("k below NONE", x.way(5, -2), Check.OUTSIDE);
        Check.due("k least", x.way(5, Integer.MIN_VALUE), Check.OUTSIDE);
    }

    /** A ring through 16 bodies, its steps told backwards: each round of a plain search finds but one body more. */
    private static void longRing() {
        StringBuilder text = new StringBuilder("c99;c99;c99;");
        for (int b = 0; b < 16; b++) {
            text.append('m').append(b / 6).append(' ').append(b % 6).append(';');
        }
        for (int b = 15; b >= 0; b--) {
            int next = (b + 1) % 16;
            text.append('v').append(b).append(' ').append(next / 6).append(' ').append(next % 6).append(';');
        }
        EarlyBinder x = Check.told(text + "n5 1;n0 0;");
        x.load(0);
        x.load(1);
        x.root(0, true);
        Check.due("half the ring", x.told(8), (1 << 12) - 1);
        Check.due("no ring yet", x.body(0, 4), 0);
        Check.due("could: class 2 is not loaded", x.told(10), (1 << 12) - 1);
        x.load(2);
        Check.due("class 2 is loaded, not made", x.told(8), (1 << 12) - 1);
        Check.due("could: the whole ring", x.told(10), (1 << 16) - 1);
        x = Check.told(text + "n5 1;n11 2;n0 0;");
        x.load(0);
        x.load(1);
        x.load(2);
        x.root(0, true);
        for (int b = 0; b < 16; b++) {
            Check.due("on the ring: " + b, x.body(b, 4), 1);
            Check.due("way to " + b, x.way(b, -1), b);
            Check.due("way to 15, the BODY " + b, x.way(15, b), b);
            Check.due("callers of " + b, x.callers(b), 1 << (b + 15) % 16);
        }
        Check.due("way to 15 ends", x.way(15, 16), Check.NONE);
        x.root(0, false);
        x.root(6, true);
        Check.due("from elsewhere nothing is made", x.told(8), 1 << 6);
    }

    private static void deadAndCould() {
        // Body 1 would be come to, were class 1 made; what it makes (2) is not loaded, so body 2 would not.
        EarlyBinder x = Check.told("c99;c0;c0;m0 0;m1 0;m2 0;v0 0 0;n1 2;");
        x.load(1);
        x.root(0, true);
        Check.due("reached", x.told(8), Check.set(0));
        Check.due("dead", x.told(9), Check.set(1));
        Check.due("could", x.told(10), Check.set(0, 1));
        Check.due("made stays", x.told(7), 0);
        x.load(2);
        Check.due("could with 2", x.told(10), Check.set(0, 1, 2));
        Check.due("dead with 2", x.told(9), Check.set(1, 2));
        x.root(0, false);
        Check.due("could without roots", x.told(10), 0);
    }

    private static void refusals() {
        EarlyBinder x = Check.told("c99;m0 0;v0 0 0;");
        Check.due("body(1, 0)", x.body(1, 0), Check.UNKNOWN);
        Check.due("body(-1, 9)", x.body(-1, 9), Check.UNKNOWN);
        Check.due("body(0, -1)", x.body(0, -1), Check.OUTSIDE);
        Check.due("body(0, 7)", x.body(0, 7), Check.OUTSIDE);
        Check.due("callers(1)", x.callers(1), Check.UNKNOWN);
        Check.due("callers(-1)", x.callers(-1), Check.UNKNOWN);
        Check.due("call(1, 0)", x.call(1, 0), Check.UNKNOWN);
        Check.due("call(-1, 9)", x.call(-1, 9), Check.UNKNOWN);
        Check.due("call(0, -1)", x.call(0, -1), Check.OUTSIDE);
        Check.due("call(0, 7)", x.call(0, 7), Check.OUTSIDE);
        Check.due("way(1, -1)", x.way(1, -1), Check.UNKNOWN);
        Check.due("way(-1, -5)", x.way(-1, -5), Check.UNKNOWN);
        Check.due("way(0, -2)", x.way(0, -2), Check.OUTSIDE);
        Check.due("way(0, 0)", x.way(0, 0), Check.NONE);
        Check.due("callers(0)", x.callers(0), 0);
    }
}
