/** Promises 5 to 12: told's counts, type, above, users, common, isBelow, makers, found. */
public final class TypesTest {
    // 0 i, 1 i0, 2 i0, 3 i1,2, 4 c99,1, 5 c4,2, 6 c5, 7 c99,3, 8 c99
    private static final String TYPES = "i;i0;i0;i1,2;c99,1;c4,2;c5;c99,3;c99;";

    public static void main(String[] args) {
        counts();
        types();
        rows();
        pairs();
        makersOfClasses();
        foundInClasses();
        foundInInterfaces();
        twelveDeep();
        Check.finish();
    }

    private static void counts() {
        EarlyBinder x = Check.told(TYPES + "m4 0;m4 1;m5 0;n0 4;v0 0 0;s2 0;v2 8 5;");
        Check.due("told(0)", x.told(0), 9);
        Check.due("told(1)", x.told(1), 3);
        Check.due("told(2)", x.told(2), 4);
        Check.due("told(3)", x.told(3), 2);
        Check.due("told(4)", x.told(4), 0);
        x.feed('i');
        Check.due("told(4) of a letter", x.told(4), 1);
        Check.due("told(-1)", x.told(-1), Check.OUTSIDE);
        Check.due("told(16)", x.told(16), Check.OUTSIDE);
        Check.due("told(greatest)", x.told(Integer.MAX_VALUE), Check.OUTSIDE);
        Check.due("body(0, 2)", x.body(0, 2), 2);
        Check.due("body(1, 2)", x.body(1, 2), 0);
        Check.due("body(2, 2)", x.body(2, 2), 2);
        Check.due("body(2, 0)", x.body(2, 0), 5);
        Check.due("body(1, 1)", x.body(1, 1), 1);
        Check.due("call(1, 0)", x.call(1, 0), 2);
        Check.due("call(1, 1)", x.call(1, 1), 8);
        Check.due("call(1, 2)", x.call(1, 2), 5);
    }

    private static void types() {
        EarlyBinder x = Check.told(TYPES + "m4 0;m4 1;m5 0;");
        int[] isClass = {0, 0, 0, 0, 1, 1, 1, 1, 1};
        int[] above = {Check.set(0), Check.set(0, 1), Check.set(0, 2), Check.set(0, 1, 2, 3), Check.set(0, 1, 4),
                Check.set(0, 1, 2, 4, 5), Check.set(0, 1, 2, 4, 5, 6), Check.set(0, 1, 2, 3, 7), Check.set(8)};
        int[] below = {Check.set(0, 1, 2, 3, 4, 5, 6, 7), Check.set(1, 3, 4, 5, 6, 7), Check.set(2, 3, 5, 6, 7),
                Check.set(3, 7), Check.set(4, 5, 6), Check.set(5, 6), Check.set(6), Check.set(7), Check.set(8)};
        int[] depth = {1, 2, 2, 3, 3, 4, 5, 4, 1};
        int[] bodies = {0, 0, 0, 0, 3, 4, 0, 0, 0};
        for (int t = 0; t < 9; t++) {
            Check.due("type(" + t + ", 0)", x.type(t, 0), isClass[t]);
            Check.due("type(" + t + ", 1)", x.type(t, 1), above[t]);
            Check.due("type(" + t + ", 2)", x.type(t, 2), below[t]);
            Check.due("type(" + t + ", 3)", x.type(t, 3), depth[t]);
            Check.due("type(" + t + ", 4)", x.type(t, 4), bodies[t]);
            Check.due("type(" + t + ", 5)", x.type(t, 5), 0);
            Check.due("type(" + t + ", -1)", x.type(t, -1), Check.OUTSIDE);
            Check.due("type(" + t + ", 6)", x.type(t, 6), Check.OUTSIDE);
        }
        Check.due("type(9, 0)", x.type(9, 0), Check.UNKNOWN);
        Check.due("type(-1, 0)", x.type(-1, 0), Check.UNKNOWN);
        Check.due("type(9, 6)", x.type(9, 6), Check.UNKNOWN);
    }

    private static void rows() {
        EarlyBinder x = Check.told(TYPES);
        int[] above = {Check.WRONG, Check.WRONG, Check.WRONG, Check.WRONG, Check.NONE, 4, 5, Check.NONE, Check.NONE};
        int[] users = {4, 4, 3, 1, Check.WRONG, Check.WRONG, Check.WRONG, Check.WRONG, Check.WRONG};
        for (int t = 0; t < 9; t++) {
            Check.due("above(" + t + ")", x.above(t), above[t]);
            Check.due("users(" + t + ")", x.users(t), users[t]);
        }
        Check.due("above(9)", x.above(9), Check.UNKNOWN);
        Check.due("above(-1)", x.above(-1), Check.UNKNOWN);
        Check.due("users(9)", x.users(9), Check.UNKNOWN);
        Check.due("users(-1)", x.users(-1), Check.UNKNOWN);
    }

    private static void pairs() {
        EarlyBinder x = Check.told("c99;c0;c0;c1;c99;i;c3,5;");
        Check.due("common(3, 2)", x.common(3, 2), 0);
        Check.due("common(2, 3)", x.common(2, 3), 0);
        Check.due("common(3, 1)", x.common(3, 1), 1);
        Check.due("common(1, 3)", x.common(1, 3), 1);
        Check.due("common(6, 3)", x.common(6, 3), 3);
        Check.due("common(6, 4)", x.common(6, 4), Check.NONE);
        Check.due("common(4, 6)", x.common(4, 6), Check.NONE);
        Check.due("common(3, 3)", x.common(3, 3), Check.UNKNOWN);
        Check.due("common(5, 5)", x.common(5, 5), Check.UNKNOWN);
        Check.due("common(5, 3)", x.common(5, 3), Check.WRONG);
        Check.due("common(6, 5)", x.common(6, 5), Check.WRONG);
        Check.due("common(5, 7)", x.common(5, 7), Check.UNKNOWN);
        Check.due("common(7, 5)", x.common(7, 5), Check.UNKNOWN);
        Check.due("common(-1, 0)", x.common(-1, 0), Check.UNKNOWN);
        Check.due("isBelow(6, 0)", x.isBelow(6, 0), 1);
        Check.due("isBelow(0, 6)", x.isBelow(0, 6), 0);
        Check.due("isBelow(6, 5)", x.isBelow(6, 5), 1);
        Check.due("isBelow(5, 6)", x.isBelow(5, 6), 0);
        Check.due("isBelow(2, 1)", x.isBelow(2, 1), 0);
        Check.due("isBelow(2, 2)", x.isBelow(2, 2), Check.UNKNOWN);
        Check.due("isBelow(7, 0)", x.isBelow(7, 0), Check.UNKNOWN);
        Check.due("isBelow(0, 7)", x.isBelow(0, 7), Check.UNKNOWN);
        Check.due("isBelow(0, -1)", x.isBelow(0, -1), Check.UNKNOWN);
    }

    private static void makersOfClasses() {
        EarlyBinder x = Check.told("c99;i;c0;m0 0;m1 0;m0 1;n0 0;n1 0;n1 0;n2 2;v2 0 0;");
        Check.due("makers(0)", x.makers(0), Check.set(0, 1));
        Check.due("makers(2)", x.makers(2), Check.set(2));
        Check.due("makers(1)", x.makers(1), Check.WRONG);
        Check.due("makers(3)", x.makers(3), Check.UNKNOWN);
        Check.due("makers(-1)", x.makers(-1), Check.UNKNOWN);
    }

    private static void foundInClasses() {
        // An interface's body counts only where no class on the row has one, however near it is.
        EarlyBinder x = Check.told("i;c99;c1,0;c2;m0 0;m1 0;m2 1;m0 1;");
        Check.due("found(1, 0)", x.found(1, 0), 1);
        Check.due("found(2, 0)", x.found(2, 0), 1);
        Check.due("found(3, 0)", x.found(3, 0), 1);
        Check.due("found(1, 1)", x.found(1, 1), Check.NONE);
        Check.due("found(3, 1)", x.found(3, 1), 2);
        Check.due("found(3, 5)", x.found(3, 5), Check.NONE);
        Check.due("found(0, 0)", x.found(0, 0), Check.WRONG);
        Check.due("found(0, 6)", x.found(0, 6), Check.UNKNOWN);
        Check.due("found(3, 6)", x.found(3, 6), Check.UNKNOWN);
        Check.due("found(3, -1)", x.found(3, -1), Check.UNKNOWN);
        Check.due("found(4, 0)", x.found(4, 0), Check.UNKNOWN);
        Check.due("found(-1, 0)", x.found(-1, 0), Check.UNKNOWN);
        Check.due("body(2, 5)", x.body(2, 5), 3);
        Check.due("body(1, 5)", x.body(1, 5), Check.NONE);
        Check.due("body(0, 5) of an interface", x.body(0, 5), Check.NONE);
    }

    private static void foundInInterfaces() {
        // 0 i, 1 i0, 2 i0, 3 i1 without bodies of its own; bodies: 0 of 0, 1 of 1, 2 of 2
        EarlyBinder x = Check.told("i;i0;i0;i1;c99,0;c99,3;c99,1,2;c99,2,0;c6;c5,2;m0 0;m1 0;m2 0;m5 0;m6 0;");
        Check.due("found(4, 0)", x.found(4, 0), 0);
        Check.due("found(5, 0)", x.found(5, 0), 3);
        Check.due("found(7, 0)", x.found(7, 0), 2);
        Check.due("found(8, 0)", x.found(8, 0), 4);
        Check.due("found(9, 0)", x.found(9, 0), 3);
        Check.due("body(3, 5)", x.body(3, 5), 1);
        Check.due("body(4, 5): two lowest", x.body(4, 5), Check.NONE);
        x = Check.told("i;i0;i0;i1,2;c99,1,2;c99,3;m0 0;m1 0;m2 0;m3 0;m1 1;m2 1;");
        Check.due("two lowest", x.found(4, 0), Check.NONE);
        Check.due("one below both", x.found(5, 0), 3);
        Check.due("two lowest again", x.found(5, 1), Check.NONE);
        // An interface that comes to a class further down counts for that class alone.
        x = Check.told("i;c99,0;c1;i0;c2,3;m0 2;m3 2;");
        Check.due("found(2, 2)", x.found(2, 2), 0);
        Check.due("found(4, 2)", x.found(4, 2), 1);
    }

    private static void twelveDeep() {
        EarlyBinder x = Check.told("c99;c0;c1;c2;c3;c4;c5;c6;c7;c8;c9;c10;m0 0;m11 0;");
        Check.due("depth", x.type(11, 3), 12);
        Check.due("above all", x.type(11, 1), 4095);
        Check.due("below all", x.type(0, 2), 4095);
        Check.due("found far up", x.found(10, 0), 0);
        Check.due("over far up", x.body(1, 5), 0);
        Check.due("common far up", x.common(11, 0), 0);
        Check.due("load all", x.load(11), 12);
    }
}
