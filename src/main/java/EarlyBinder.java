import java.util.Arrays;

/**
 * Who calls whom in a program of classes; which calls can be bound early, and what would withdraw them.
 * The words (TYPE, BODY, FOUND, MAY ..) are those of the document.
 */
public final class EarlyBinder {
    public static final int NONE = -1, UNKNOWN = -1000000001, OUTSIDE = -1000000002, WRONG = -1000000003,
            NOT = -1000000004, FULL = -1000000005;

    private static final int MOST_LETTERS = 240, MOST_TYPES = 12, MOST_BODIES = 20, MOST_STEPS = 24;
    private static final int MESSAGES = 6, MOST_INTERFACES = 2, NO_CLASS = 99;
    private static final int MAKES = 0, CALLS_TYPE = 1, CALLS_ABOVE = 2;
    private static final int CANNOT_STAND = 1, BAD_NUMBER = 2, TOO_MANY = 3, BAD_SORT = 4;
    private static final int MOST_ENTRIES = 16, MOST_UNDONE = 8, IMAGES = 2, MOST_COUNTED = 9999;
    private static final int MOST_DRIFT = 40, MOST_SEED = 999999;

    private final Reader reader;
    private final Scene now;
    private final Scene[] images;
    private final boolean[] kept;
    private final Past past;
    private final Flow flow;
    private final Flow flowIfAllMade;
    private Plan plan;
    // A text with a fault must leave the plan as it was, so the text is read into this one and they change places.
    private Plan spare;
    private int faultPlace;

    public EarlyBinder() {
        reader = new Reader();
        now = new Scene();
        images = new Scene[IMAGES];
        for (int i = 0; i < IMAGES; i++) {
            images[i] = new Scene();
        }
        kept = new boolean[IMAGES];
        past = new Past();
        flow = new Flow(false);
        flowIfAllMade = new Flow(true);
        plan = new Plan();
        spare = new Plan();
        faultPlace = NONE;
    }

    // ---- the program

    public int feed(int letter) {
        if (letter < 0 || letter > 255) {
            return OUTSIDE;
        }
        return reader.takeLetter(letter) ? reader.length : FULL;
    }

    public int program() {
        int faultNumber = reader.readInto(spare);
        faultPlace = reader.faultPlace;
        if (faultNumber != 0) {
            return -10 - faultNumber;
        }
        spare.lookUpAll();
        Plan old = plan;
        plan = spare;
        spare = old;
        startAnew();
        return plan.types;
    }

    public int fault() {
        return faultPlace;
    }

    public int told(int what) {
        switch (what) {
            case 0: return plan.types;
            case 1: return plan.bodies;
            case 2: return plan.steps;
            case 3: return plan.calls;
            case 4: return reader.length;
            case 5: return now.loaded;
            case 6: return now.roots;
            case 7: return flowNow().made;
            case 8: return flowNow().reached;
            case 9: return plan.bodiesOf(now.loaded) & ~flowNow().reached;
            case 10:
                flowIfAllMade.follow(plan, now.loaded, now.roots);
                return flowIfAllMade.reached;
            case 11: return now.boundCalls();
            case 12: return now.timesBound;
            case 13: return now.timesWithdrawn;
            case 14: return now.book.entries;
            case 15: return past.count;
            default: return OUTSIDE;
        }
    }

    public int type(int t, int what) {
        if (!isType(t)) {
            return UNKNOWN;
        }
        switch (what) {
            case 0: return plan.isClass(t) ? 1 : 0;
            case 1: return at(plan.above, t);
            case 2: return at(plan.below, t);
            case 3: return at(plan.depth, t);
            case 4: return plan.bodiesOf(bit(t));
            case 5: return callsHurtBy(t);
            default: return OUTSIDE;
        }
    }

    public int above(int t) {
        if (!isType(t)) {
            return UNKNOWN;
        }
        return plan.isClass(t) ? at(plan.parent, t) : WRONG;
    }

    public int users(int t) {
        if (!isType(t)) {
            return UNKNOWN;
        }
        return plan.isClass(t) ? WRONG : Integer.bitCount(at(plan.below, t) & plan.classes);
    }

    public int common(int t, int u) {
        if (!isType(t) || !isType(u) || t == u) {
            return UNKNOWN;
        }
        if (!plan.isClass(t) || !plan.isClass(u)) {
            return WRONG;
        }
        return plan.firstShared(t, u);
    }

    public int isBelow(int t, int u) {
        if (!isType(t) || !isType(u) || t == u) {
            return UNKNOWN;
        }
        return has(at(plan.above, t), u) ? 1 : 0;
    }

    public int makers(int t) {
        if (!isType(t)) {
            return UNKNOWN;
        }
        return plan.isClass(t) ? plan.bodiesThatMake(t) : WRONG;
    }

    public int found(int t, int m) {
        if (!isType(t) || m < 0 || m >= MESSAGES) {
            return UNKNOWN;
        }
        return plan.isClass(t) ? plan.foundFor(t, m) : WRONG;
    }

    public int body(int b, int what) {
        if (!isBody(b)) {
            return UNKNOWN;
        }
        switch (what) {
            case 0: return at(plan.bodyType, b);
            case 1: return at(plan.bodyMessage, b);
            case 2: return plan.stepsOf(b);
            case 3: return has(flowNow().reached, b) ? 1 : 0;
            case 4: return flowNow().comesBack(b) ? 1 : 0;
            case 5: return plan.foundOver(b);
            case 6: return at(flowNow().goesTo, b);
            default: return OUTSIDE;
        }
    }

    public int callers(int b) {
        return isBody(b) ? flowNow().whoCalls(bit(b)) : UNKNOWN;
    }

    public int call(int c, int what) {
        if (!isCall(c)) {
            return UNKNOWN;
        }
        int step = at(plan.callStep, c);
        switch (what) {
            case 0: return at(plan.stepBody, step);
            case 1: return at(plan.stepType, step);
            case 2: return at(plan.stepMessage, step);
            case 3: return plan.mayOf(c, now.loaded);
            case 4: return whatItDoes(c);
            case 5: return now.boundBody(c);
            case 6: return typesThatBreak(c);
            default: return OUTSIDE;
        }
    }

    // ---- what is done

    public int load(int t) {
        if (!isType(t)) {
            return UNKNOWN;
        }
        if (has(now.loaded, t)) {
            return NOT;
        }
        past.remember(now);
        return loadWithAbove(t);
    }

    public int root(int b, boolean is) {
        if (!isBody(b)) {
            return UNKNOWN;
        }
        if (has(now.roots, b) == is) {
            return NOT;
        }
        past.remember(now);
        now.roots ^= bit(b);
        return now.roots;
    }

    public int bind(int c) {
        if (!isCall(c)) {
            return UNKNOWN;
        }
        int body = bodyToBind(c);
        if (body == NONE) {
            return NOT;
        }
        past.remember(now);
        now.bindTo(c, body);
        return body;
    }

    public int bindAll() {
        past.remember(now);
        int many = 0;
        for (int c = 0; c < plan.calls; c++) {
            int body = bodyToBind(c);
            if (body != NONE) {
                now.bindTo(c, body);
                many++;
            }
        }
        return many;
    }

    public int loose(int c) {
        if (!isCall(c)) {
            return UNKNOWN;
        }
        int body = now.boundBody(c);
        if (body == NONE) {
            return NOT;
        }
        past.remember(now);
        now.setFree(c);
        return body;
    }

    public int drift(int n, int seed) {
        if (n < 1 || n > MOST_DRIFT || seed < 1 || seed > MOST_SEED) {
            return OUTSIDE;
        }
        if (plan.types == 0) {
            return NOT;
        }
        past.remember(now);
        long lot = seed;
        for (int i = 0; i < n; i++) {
            lot = lot * 16807L % 2147483647L;
            driftOnce((int) lot);
        }
        return now.loaded;
    }

    public int undo() {
        return past.giveBack(now) ? past.count : NOT;
    }

    // ---- foretold

    public int way(int b, int k) {
        if (!isBody(b)) {
            return UNKNOWN;
        }
        if (k < NONE) {
            return OUTSIDE;
        }
        return flowNow().wayTo(b, k);
    }

    public int journal(int i, int what) {
        if (what < 0 || what > 2) {
            return OUTSIDE;
        }
        return now.book.entry(i, what);
    }

    public int holds(int c) {
        if (!isCall(c)) {
            return UNKNOWN;
        }
        int body = now.boundBody(c);
        if (body == NONE) {
            return NOT;
        }
        return (whatItDoes(c) & ~bit(body)) == 0 ? 1 : 0;
    }

    // ---- images

    public int keep(int i) {
        if (!isImage(i)) {
            return UNKNOWN;
        }
        images[i].become(now);
        kept[i] = true;
        past.clear();
        return 1;
    }

    public int goBack(int i) {
        if (!isImage(i)) {
            return UNKNOWN;
        }
        if (!kept[i]) {
            return NOT;
        }
        now.become(images[i]);
        past.clear();
        return 1;
    }

    // ---- what these calls are made of

    private boolean isType(int t) {
        return t >= 0 && t < plan.types;
    }

    private boolean isBody(int b) {
        return b >= 0 && b < plan.bodies;
    }

    private boolean isCall(int c) {
        return c >= 0 && c < plan.calls;
    }

    private static boolean isImage(int i) {
        return i >= 0 && i < IMAGES;
    }

    private void startAnew() {
        now.clear();
        past.clear();
        for (int i = 0; i < IMAGES; i++) {
            kept[i] = false;
        }
        flow.forget();
        flowIfAllMade.forget();
    }

    private Flow flowNow() {
        flow.follow(plan, now.loaded, now.roots);
        return flow;
    }

    private int whatItDoes(int c) {
        Flow f = flowNow();
        int step = at(plan.callStep, c);
        return has(f.reached, at(plan.stepBody, step)) ? plan.calledBy(step, f.made) : 0;
    }

    /** The BODY that the CALL can be BOUND to now; NONE, if it is BOUND or MAY is not one BODY alone. */
    private int bodyToBind(int c) {
        int may = plan.mayOf(c, now.loaded);
        return now.boundBody(c) == NONE && Integer.bitCount(may) == 1 ? least(may) : NONE;
    }

    /** Whether the CALL is BOUND, and would be no more if these TYPES were LOADED. */
    private boolean isBroken(int c, int loaded) {
        int body = now.boundBody(c);
        return body != NONE && plan.mayOf(c, loaded) != bit(body);
    }

    /** How many TYPES were LOADED by it: none, if it is LOADED already. */
    private int loadWithAbove(int t) {
        int more = isType(t) ? at(plan.above, t) & ~now.loaded : 0;
        now.loaded |= more;
        for (int c = 0; c < plan.calls; c++) {
            if (isBroken(c, now.loaded)) {
                now.withdraw(c);
            }
        }
        return Integer.bitCount(more);
    }

    private int callsHurtBy(int t) {
        int loaded = now.loaded | at(plan.above, t);
        int hurt = 0;
        for (int c = 0; c < plan.calls; c++) {
            if (isBroken(c, loaded)) {
                hurt |= bit(c);
            }
        }
        return hurt;
    }

    private int typesThatBreak(int c) {
        int breakers = 0;
        for (int t = 0; t < plan.types; t++) {
            if (!has(now.loaded, t) && isBroken(c, now.loaded | at(plan.above, t))) {
                breakers |= bit(t);
            }
        }
        return breakers;
    }

    private void driftOnce(int lot) {
        switch (lot % 4) {
            case 0:
                loadWithAbove(pick(lot, plan.types));
                break;
            case 1:
                now.roots ^= bit(pick(lot, plan.bodies));
                break;
            case 2:
                driftBind(pick(lot, plan.calls));
                break;
            default:
                now.setFree(pick(lot, plan.calls));
                break;
        }
    }

    private void driftBind(int c) {
        int body = isCall(c) ? bodyToBind(c) : NONE;
        if (body != NONE) {
            now.bindTo(c, body);
        }
    }

    /** Which of so many the lot falls on; NONE, where there are none. */
    private static int pick(int lot, int many) {
        return many > 0 ? lot / 4 % many : NONE;
    }

    /** The element, or NONE where the row has none: so that no index is ever used untested. */
    private static int at(int[] row, int i) {
        return i >= 0 && i < row.length ? row[i] : NONE;
    }

    /** The SET of k alone; the empty one for NONE. */
    private static int bit(int k) {
        return k >= 0 && k < 31 ? 1 << k : 0;
    }

    private static boolean has(int set, int k) {
        return k >= 0 && k < 31 && (set >> k & 1) != 0;
    }

    /** The least in a SET; NONE of the empty one. */
    private static int least(int set) {
        return set == 0 ? NONE : Integer.numberOfTrailingZeros(set);
    }

    /** THE TEXT, and how it is read into a plan: sign by sign, blanks left out, up to the first FAULT. */
    private static final class Reader {
        private static final int END = -1, A_NUMBER = -2;

        private final int[] letters = new int[MOST_LETTERS];
        int length = 0;
        int faultPlace = NONE;
        private int faultNumber = 0;
        private int next = 0;
        // The sign that stands next: a letter, A_NUMBER or the END, and where it begins.
        private int sign = END;
        private int place = 0;
        private int number = 0;
        private int figures = 0;
        private int numberPlace = 0;

        boolean takeLetter(int letter) {
            if (length < 0 || length >= MOST_LETTERS) {
                return false;
            }
            letters[length] = letter;
            length++;
            return true;
        }

        /** Empties the text, too. The number of the FAULT, or 0. */
        int readInto(Plan plan) {
            plan.clear();
            faultNumber = 0;
            faultPlace = NONE;
            next = 0;
            advance();
            for (int clauses = 0; clauses <= MOST_LETTERS && faultNumber == 0 && sign != END; clauses++) {
                switch (sign) {
                    case 'c':
                    case 'i':
                        readType(plan);
                        break;
                    case 'm':
                        readBody(plan);
                        break;
                    case 'n':
                    case 'v':
                    case 's':
                        readStep(plan);
                        break;
                    default:
                        fail(place, CANNOT_STAND);
                        break;
                }
            }
            length = 0;
            return faultNumber;
        }

        private void readType(Plan plan) {
            boolean isClass = takeWord(plan.types < MOST_TYPES) == 'c';
            int parent = NONE;
            int interfaces = 0;
            int many = 0;
            if (isClass) {
                parent = readParent(plan);
            } else if (sign != ';') {
                interfaces = bit(readInterface(plan, 0));
                many = 1;
            }
            for (; many < MOST_INTERFACES && sign == ','; many++) {
                advance();
                interfaces |= bit(readInterface(plan, interfaces));
            }
            if (isEnded()) {
                plan.addType(isClass, parent, interfaces);
            }
        }

        private int readParent(Plan plan) {
            int parent = takeNumber(plan.types, NO_CLASS);
            if (parent == NO_CLASS) {
                return NONE;
            }
            return wantSort(plan, parent, true);
        }

        private int readInterface(Plan plan, int already) {
            int t = wantSort(plan, takeNumber(plan.types, NONE), false);
            return has(already, t) ? fail(numberPlace, BAD_SORT) : t;
        }

        private void readBody(Plan plan) {
            takeWord(plan.bodies < MOST_BODIES);
            int t = takeNumber(plan.types, NONE);
            int message = takeNumber(MESSAGES, NONE);
            if (plan.ownBody(t, message) != NONE) {
                fail(numberPlace, BAD_SORT);
            }
            if (isEnded()) {
                plan.addBody(t, message);
            }
        }

        private void readStep(Plan plan) {
            int word = takeWord(plan.steps < MOST_STEPS);
            int body = takeNumber(plan.bodies, NONE);
            int sort = word == 'n' ? MAKES : word == 'v' ? CALLS_TYPE : CALLS_ABOVE;
            int t;
            if (sort == CALLS_ABOVE) {
                t = wantParentOf(plan, body);
            } else {
                t = takeNumber(plan.types, NONE);
            }
            if (sort == MAKES) {
                wantSort(plan, t, true);
            }
            int message = sort == MAKES ? NONE : takeNumber(MESSAGES, NONE);
            if (isEnded()) {
                plan.addStep(sort, body, t, message);
            }
        }

        /** The CLASS that the BODY's TYPE is below. */
        private int wantParentOf(Plan plan, int body) {
            int parent = at(plan.parent, at(plan.bodyType, body));
            return parent == NONE ? fail(numberPlace, BAD_SORT) : parent;
        }

        private int wantSort(Plan plan, int t, boolean isClass) {
            return plan.isClass(t) == isClass ? t : fail(numberPlace, BAD_SORT);
        }

        private int takeWord(boolean isRoom) {
            if (!isRoom) {
                fail(place, TOO_MANY);
            }
            int word = sign;
            advance();
            return word;
        }

        /** A NUMBER below the bound, or the one besides; NONE with a FAULT. */
        private int takeNumber(int bound, int besides) {
            if (sign != A_NUMBER) {
                return fail(place, CANNOT_STAND);
            }
            int taken = number;
            boolean isGood = figures <= 2 && (taken < bound || taken == besides);
            numberPlace = place;
            advance();
            return isGood ? taken : fail(numberPlace, BAD_NUMBER);
        }

        /** Whether the clause ends here, and without a FAULT. */
        private boolean isEnded() {
            if (sign != ';') {
                fail(place, CANNOT_STAND);
            }
            advance();
            return faultNumber == 0;
        }

        private void advance() {
            for (int i = 0; i < MOST_LETTERS && next < length && at(letters, next) == ' '; i++) {
                next++;
            }
            place = next;
            sign = next < length ? at(letters, next) : END;
            number = 0;
            figures = 0;
            for (; figures < MOST_LETTERS && next < length && isFigure(at(letters, next)); figures++) {
                number = number * 10 + at(letters, next) - '0';
                next++;
            }
            if (figures > 0) {
                sign = A_NUMBER;
            } else if (sign != END) {
                next++;
            }
        }

        private static boolean isFigure(int letter) {
            return letter >= '0' && letter <= '9';
        }

        /** Only the first FAULT counts: what is read behind it rests on numbers that were never there. */
        private int fail(int where, int fault) {
            if (faultNumber == 0) {
                faultPlace = where;
                faultNumber = fault;
            }
            return NONE;
        }
    }

    /** THE PROGRAM as it was told: nothing in it changes while it goes on. */
    private static final class Plan {
        int types = 0;
        int classes = 0;
        int bodies = 0;
        int steps = 0;
        int calls = 0;
        final int[] parent = new int[MOST_TYPES];
        final int[] above = new int[MOST_TYPES];
        final int[] below = new int[MOST_TYPES];
        final int[] depth = new int[MOST_TYPES];
        final int[] bodyType = new int[MOST_BODIES];
        final int[] bodyMessage = new int[MOST_BODIES];
        final int[] stepSort = new int[MOST_STEPS];
        final int[] stepBody = new int[MOST_STEPS];
        final int[] stepType = new int[MOST_STEPS];
        final int[] stepMessage = new int[MOST_STEPS];
        final int[] callStep = new int[MOST_STEPS];
        private final int[] ownBodies = new int[MOST_TYPES * MESSAGES];
        private final int[] foundBodies = new int[MOST_TYPES * MESSAGES];

        Plan() {
            Arrays.fill(ownBodies, NONE);
            Arrays.fill(foundBodies, NONE);
        }

        void clear() {
            types = 0;
            classes = 0;
            bodies = 0;
            steps = 0;
            calls = 0;
            Arrays.fill(ownBodies, NONE);
            Arrays.fill(foundBodies, NONE);
        }

        void addType(boolean isClass, int classAbove, int interfaces) {
            if (types >= MOST_TYPES) {
                return;
            }
            int t = types;
            types++;
            if (isClass) {
                classes |= bit(t);
            }
            parent[t] = classAbove;
            above[t] = bit(t);
            below[t] = 0;
            depth[t] = 1;
            for (int u = 0; u < t; u++) {
                if (u == classAbove || has(interfaces, u)) {
                    above[t] |= above[u];
                    depth[t] = Math.max(depth[t], depth[u] + 1);
                }
            }
            for (int u = 0; u <= t; u++) {
                if (has(above[t], u)) {
                    below[u] |= bit(t);
                }
            }
        }

        void addBody(int t, int message) {
            int key = key(t, message);
            if (key == NONE || bodies >= MOST_BODIES) {
                return;
            }
            bodyType[bodies] = t;
            bodyMessage[bodies] = message;
            ownBodies[key] = bodies;
            bodies++;
        }

        void addStep(int sort, int body, int t, int message) {
            if (steps >= MOST_STEPS || calls >= MOST_STEPS) {
                return;
            }
            stepSort[steps] = sort;
            stepBody[steps] = body;
            stepType[steps] = t;
            stepMessage[steps] = message;
            if (sort == CALLS_TYPE) {
                callStep[calls] = steps;
                calls++;
            }
            steps++;
        }

        /** What is FOUND never changes once the program stands, and is asked for over and over. */
        void lookUpAll() {
            for (int t = 0; t < types; t++) {
                for (int m = 0; m < MESSAGES; m++) {
                    int key = key(t, m);
                    if (isClass(t) && key != NONE) {
                        foundBodies[key] = lookUp(t, t, m);
                    }
                }
            }
        }

        /** FOUND for a CLASS, but its row of CLASSES is gone up from 'first' on only. */
        private int lookUp(int t, int first, int message) {
            int c = first;
            for (int ups = 0; ups < MOST_TYPES && c != NONE; ups++) {
                if (ownBody(c, message) != NONE) {
                    return ownBody(c, message);
                }
                c = at(parent, c);
            }
            return lookUpInInterfaces(t, message);
        }

        private int lookUpInInterfaces(int t, int message) {
            int having = 0;
            for (int i = 0; i < types; i++) {
                if (has(at(above, t) & ~classes, i) && ownBody(i, message) != NONE) {
                    having |= bit(i);
                }
            }
            int lowest = 0;
            for (int i = 0; i < types; i++) {
                if (has(having, i) && (having & at(below, i)) == bit(i)) {
                    lowest |= bit(i);
                }
            }
            return Integer.bitCount(lowest) == 1 ? ownBody(least(lowest), message) : NONE;
        }

        boolean isClass(int t) {
            return has(classes, t);
        }

        int ownBody(int t, int message) {
            return at(ownBodies, key(t, message));
        }

        int foundFor(int t, int message) {
            return at(foundBodies, key(t, message));
        }

        int foundOver(int body) {
            int t = at(bodyType, body);
            return isClass(t) ? lookUp(t, at(parent, t), at(bodyMessage, body)) : NONE;
        }

        private static int key(int t, int message) {
            boolean is = t >= 0 && t < MOST_TYPES && message >= 0 && message < MESSAGES;
            return is ? t * MESSAGES + message : NONE;
        }

        /** The first of CLASS t and those it is below that is ABOVE u. */
        int firstShared(int t, int u) {
            int c = t;
            for (int ups = 0; ups < MOST_TYPES && c != NONE; ups++) {
                if (has(at(above, u), c)) {
                    return c;
                }
                c = at(parent, c);
            }
            return NONE;
        }

        int bodiesOf(int someTypes) {
            int all = 0;
            for (int b = 0; b < bodies; b++) {
                if (has(someTypes, at(bodyType, b))) {
                    all |= bit(b);
                }
            }
            return all;
        }

        /** The CLASS that a STEP makes, as a SET. */
        int madeBy(int step) {
            return at(stepSort, step) == MAKES ? bit(at(stepType, step)) : 0;
        }

        int bodiesThatMake(int t) {
            int all = 0;
            for (int s = 0; s < steps; s++) {
                if (has(madeBy(s), t)) {
                    all |= bit(at(stepBody, s));
                }
            }
            return all;
        }

        int stepsOf(int body) {
            int many = 0;
            for (int s = 0; s < steps; s++) {
                if (at(stepBody, s) == body) {
                    many++;
                }
            }
            return many;
        }

        int mayOf(int call, int loaded) {
            return calledBy(at(callStep, call), loaded);
        }

        /** The BODIES that a STEP calls, were objects of these TYPES (of their CLASSES) all that there is. */
        int calledBy(int step, int someTypes) {
            int sort = at(stepSort, step);
            int t = at(stepType, step);
            int receivers = 0;
            if (sort == CALLS_ABOVE) {
                receivers = bit(t);
            } else if (sort == CALLS_TYPE) {
                receivers = someTypes & classes & at(below, t);
            }
            int message = at(stepMessage, step);
            int all = 0;
            for (int c = 0; c < types && receivers != 0; c++) {
                if (has(receivers, c)) {
                    all |= bit(at(foundBodies, key(c, message)));
                }
            }
            return all;
        }
    }

    /** What is so: all that load, root, bind and their like change, and that undo and images bring back. */
    private static final class Scene {
        int loaded = 0;
        int roots = 0;
        int timesBound = 0;
        int timesWithdrawn = 0;
        final Journal book = new Journal();
        private final int[] boundTo = new int[MOST_STEPS];

        Scene() {
            Arrays.fill(boundTo, NONE);
        }

        void clear() {
            loaded = 0;
            roots = 0;
            timesBound = 0;
            timesWithdrawn = 0;
            book.clear();
            Arrays.fill(boundTo, NONE);
        }

        void become(Scene other) {
            loaded = other.loaded;
            roots = other.roots;
            timesBound = other.timesBound;
            timesWithdrawn = other.timesWithdrawn;
            book.become(other.book);
            System.arraycopy(other.boundTo, 0, boundTo, 0, MOST_STEPS);
        }

        int boundBody(int call) {
            return at(boundTo, call);
        }

        int boundCalls() {
            int all = 0;
            for (int c = 0; c < MOST_STEPS; c++) {
                if (boundTo[c] != NONE) {
                    all |= bit(c);
                }
            }
            return all;
        }

        void bindTo(int call, int body) {
            if (call < 0 || call >= MOST_STEPS) {
                return;
            }
            boundTo[call] = body;
            timesBound = Math.min(timesBound + 1, MOST_COUNTED);
            book.write(call, 1, body);
        }

        void withdraw(int call) {
            book.write(call, 0, boundBody(call));
            timesWithdrawn = Math.min(timesWithdrawn + 1, MOST_COUNTED);
            setFree(call);
        }

        void setFree(int call) {
            if (call >= 0 && call < MOST_STEPS) {
                boundTo[call] = NONE;
            }
        }
    }

    /** THE JOURNAL: a ring of the latest entries. */
    private static final class Journal {
        int entries = 0;
        private int latest = 0;
        private final int[] calls = new int[MOST_ENTRIES];
        private final int[] sorts = new int[MOST_ENTRIES];
        private final int[] bodies = new int[MOST_ENTRIES];

        void clear() {
            entries = 0;
            latest = 0;
        }

        void become(Journal other) {
            entries = other.entries;
            latest = other.latest;
            System.arraycopy(other.calls, 0, calls, 0, MOST_ENTRIES);
            System.arraycopy(other.sorts, 0, sorts, 0, MOST_ENTRIES);
            System.arraycopy(other.bodies, 0, bodies, 0, MOST_ENTRIES);
        }

        void write(int call, int sort, int body) {
            latest = Math.floorMod(latest + 1, MOST_ENTRIES);
            calls[latest] = call;
            sorts[latest] = sort;
            bodies[latest] = body;
            entries = Math.min(entries + 1, MOST_ENTRIES);
        }

        int entry(int i, int what) {
            if (i < 0 || i >= entries) {
                return NONE;
            }
            int place = Math.floorMod(latest - i, MOST_ENTRIES);
            return at(what == 0 ? calls : what == 1 ? sorts : bodies, place);
        }
    }

    /** What can be undone: a ring of the scenes ahead of the latest deeds. */
    private static final class Past {
        int count = 0;
        private int next = 0;
        private final Scene[] scenes = new Scene[MOST_UNDONE];

        Past() {
            for (int i = 0; i < MOST_UNDONE; i++) {
                scenes[i] = new Scene();
            }
        }

        void clear() {
            count = 0;
        }

        void remember(Scene scene) {
            scenes[next].become(scene);
            next = Math.floorMod(next + 1, MOST_UNDONE);
            count = Math.min(count + 1, MOST_UNDONE);
        }

        /** Whether there was a scene to give back. */
        boolean giveBack(Scene scene) {
            if (count <= 0) {
                return false;
            }
            next = Math.floorMod(next - 1, MOST_UNDONE);
            count--;
            scene.become(scenes[next]);
            return true;
        }
    }

    /** REACHED, MADE and who calls whom by it. Kept until what is LOADED or the ROOTS are others. */
    private static final class Flow {
        int reached = 0;
        int made = 0;
        final int[] goesTo = new int[MOST_BODIES];
        private final boolean allMade;
        private final int[] layers = new int[MOST_BODIES];
        private boolean stands = false;
        private int loaded = 0;
        private int roots = 0;

        Flow(boolean allMade) {
            this.allMade = allMade;
        }

        void forget() {
            stands = false;
        }

        void follow(Plan plan, int loadedNow, int rootsNow) {
            if (stands && loaded == loadedNow && roots == rootsNow) {
                return;
            }
            stands = true;
            loaded = loadedNow;
            roots = rootsNow;
            reached = roots & plan.bodiesOf(loaded);
            made = allMade ? loaded & plan.classes : 0;
            spread(plan);
            link(plan);
        }

        private void spread(Plan plan) {
            // Each round but the last adds a BODY or a CLASS.
            for (int round = 0; round <= MOST_BODIES + MOST_TYPES; round++) {
                int reachedAhead = reached;
                int madeAhead = made;
                for (int s = 0; s < plan.steps; s++) {
                    if (has(reached, at(plan.stepBody, s))) {
                        made |= plan.madeBy(s) & loaded;
                        reached |= plan.calledBy(s, made);
                    }
                }
                if (reached == reachedAhead && made == madeAhead) {
                    return;
                }
            }
        }

        private void link(Plan plan) {
            Arrays.fill(goesTo, 0);
            for (int s = 0; s < plan.steps; s++) {
                int body = at(plan.stepBody, s);
                if (has(reached, body) && body >= 0 && body < MOST_BODIES) {
                    goesTo[body] |= plan.calledBy(s, made);
                }
            }
        }

        int whoCalls(int someBodies) {
            int all = 0;
            for (int b = 0; b < MOST_BODIES; b++) {
                if ((goesTo[b] & someBodies) != 0) {
                    all |= bit(b);
                }
            }
            return all;
        }

        boolean comesBack(int body) {
            int come = at(goesTo, body);
            for (int round = 0; round < MOST_BODIES; round++) {
                int more = come;
                for (int b = 0; b < MOST_BODIES; b++) {
                    if (has(come, b)) {
                        more |= goesTo[b];
                    }
                }
                if (more == come) {
                    break;
                }
                come = more;
            }
            return has(come, body);
        }

        /** How long the WAY is (k is NONE), or the k-th BODY on it. */
        int wayTo(int body, int k) {
            int length = layTo(body);
            if (length == NONE || k == NONE) {
                return length;
            }
            if (k > length) {
                return NONE;
            }
            int b = least(at(layers, length) & roots & reached);
            for (int i = 1; i <= k && i < MOST_BODIES; i++) {
                b = least(at(goesTo, b) & at(layers, length - i));
            }
            return b;
        }

        /**
         * Layer d becomes the BODIES that can come to the body by d calls: from the end backwards, so that the
         * least BODY of each next layer is the next of the first row. Ends at the first layer with a ROOT.
         */
        private int layTo(int body) {
            int layer = bit(body) & reached;
            for (int d = 0; d < MOST_BODIES && layer != 0; d++) {
                layers[d] = layer;
                if ((layer & roots) != 0) {
                    return d;
                }
                layer = whoCalls(layer);
            }
            return NONE;
        }
    }
}
