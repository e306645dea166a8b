import java.util.ArrayDeque;
import java.util.ArrayList;
import java.util.Arrays;
import java.util.Collections;
import java.util.Deque;
import java.util.HashSet;
import java.util.List;
import java.util.Set;
import java.util.TreeSet;

/** The document once more, slowly and with the Java library: what ModelTest holds the class against. */
final class Model {
    private static final int NONE = -1, UNKNOWN = -1000000001, OUTSIDE = -1000000002, WRONG = -1000000003,
            NOT = -1000000004, FULL = -1000000005;

    private record Kind(boolean isClass, int parent, List<Integer> faces) {
    }

    private record Body(int type, int message) {
    }

    private record Step(char word, int body, int type, int message) {
    }

    private record Entry(int call, int sort, int body) {
    }

    private record Sign(char letter, String figures, int place) {
    }

    private static final class Fault extends Exception {
        private static final long serialVersionUID = 1;
        final int number;
        final int place;

        Fault(int number, int place) {
            this.number = number;
            this.place = place;
        }
    }

    private record State(Set<Integer> loaded, Set<Integer> roots, List<Integer> bound, List<Entry> book, int timesBound,
            int timesWithdrawn) {
        State copy() {
            return new State(new TreeSet<>(loaded), new TreeSet<>(roots), new ArrayList<>(bound),
                    new ArrayList<>(book), timesBound, timesWithdrawn);
        }
    }

    private StringBuilder text = new StringBuilder();
    private int fault = NONE;
    private List<Kind> kinds = new ArrayList<>();
    private List<Body> bodies = new ArrayList<>();
    private List<Step> steps = new ArrayList<>();
    private State now = fresh();
    private final Deque<State> past = new ArrayDeque<>();
    private final State[] images = new State[2];

    private static State fresh() {
        return new State(new TreeSet<>(), new TreeSet<>(), new ArrayList<>(Collections.nCopies(24, NONE)),
                new ArrayList<>(), 0, 0);
    }

    int feed(int letter) {
        if (letter < 0 || letter > 255) {
            return OUTSIDE;
        }
        if (text.length() == 240) {
            return FULL;
        }
        text.append((char) letter);
        return text.length();
    }

    // ---- reading

    private List<Sign> signs;
    private int at;
    private List<Kind> newKinds;
    private List<Body> newBodies;
    private List<Step> newSteps;

    int program() {
        String told = text.toString();
        text = new StringBuilder();
        try {
            read(told);
        } catch (Fault f) {
            fault = f.place;
            return -10 - f.number;
        }
        fault = NONE;
        kinds = newKinds;
        bodies = newBodies;
        steps = newSteps;
        now = fresh();
        past.clear();
        Arrays.fill(images, null);
        return kinds.size();
    }

    private void read(String told) throws Fault {
        signs = new ArrayList<>();
        for (int i = 0; i < told.length(); i++) {
            int end = i;
            while (end < told.length() && "0123456789".indexOf(told.charAt(end)) >= 0) {
                end++;
            }
            if (end > i) {
                signs.add(new Sign('0', told.substring(i, end), i));
                i = end - 1;
            } else if (told.charAt(i) != ' ') {
                signs.add(new Sign(told.charAt(i), "", i));
            }
        }
        signs.add(new Sign('$', "end", told.length()));
        newKinds = new ArrayList<>();
        newBodies = new ArrayList<>();
        newSteps = new ArrayList<>();
        at = 0;
        while (!signs.get(at).figures.equals("end")) {
            clause();
        }
    }

    private void clause() throws Fault {
        Sign word = signs.get(at);
        if (!word.figures.isEmpty() || "cimnvs".indexOf(word.letter) < 0) {
            throw new Fault(1, word.place);
        }
        at++;
        if (word.letter == 'c' || word.letter == 'i') {
            limit(newKinds.size() == 12, word);
            kind(word.letter == 'c');
        } else if (word.letter == 'm') {
            limit(newBodies.size() == 20, word);
            int t = number(newKinds.size());
            int place = signs.get(at).place;
            int m = number(6);
            if (newBodies.contains(new Body(t, m))) {
                throw new Fault(4, place);
            }
            want(';');
            newBodies.add(new Body(t, m));
        } else {
            limit(newSteps.size() == 24, word);
            step(word.letter);
        }
    }

    private void kind(boolean isClass) throws Fault {
        int parent = NONE;
        List<Integer> faces = new ArrayList<>();
        if (isClass) {
            Sign p = signs.get(at);
            if (p.letter == '0' && p.figures.equals("99")) {
                at++;
            } else {
                parent = number(newKinds.size());
                if (!newKinds.get(parent).isClass) {
                    throw new Fault(4, p.place);
                }
            }
        } else if (signs.get(at).letter != ';') {
            face(faces);
        }
        while (signs.get(at).letter == ',' && faces.size() < 2) {
            at++;
            face(faces);
        }
        want(';');
        newKinds.add(new Kind(isClass, parent, faces));
    }

    private void face(List<Integer> faces) throws Fault {
        int place = signs.get(at).place;
        int face = number(newKinds.size());
        if (newKinds.get(face).isClass || faces.contains(face)) {
            throw new Fault(4, place);
        }
        faces.add(face);
    }

    private void step(char word) throws Fault {
        int place = signs.get(at).place;
        int b = number(newBodies.size());
        Kind own = newKinds.get(newBodies.get(b).type);
        if (word == 's') {
            if (!own.isClass || own.parent == NONE) {
                throw new Fault(4, place);
            }
            int m = number(6);
            want(';');
            newSteps.add(new Step(word, b, own.parent, m));
            return;
        }
        place = signs.get(at).place;
        int t = number(newKinds.size());
        if (word == 'n' && !newKinds.get(t).isClass) {
            throw new Fault(4, place);
        }
        int m = word == 'v' ? number(6) : NONE;
        want(';');
        newSteps.add(new Step(word, b, t, m));
    }

    private static void limit(boolean isFull, Sign word) throws Fault {
        if (isFull) {
            throw new Fault(3, word.place);
        }
    }

    private int number(int bound) throws Fault {
        Sign sign = signs.get(at);
        if (sign.letter != '0' || sign.figures.isEmpty()) {
            throw new Fault(1, sign.place);
        }
        if (sign.figures.length() > 2 || Integer.parseInt(sign.figures) >= bound) {
            throw new Fault(2, sign.place);
        }
        at++;
        return Integer.parseInt(sign.figures);
    }

    private void want(char letter) throws Fault {
        if (signs.get(at).letter != letter) {
            throw new Fault(1, signs.get(at).place);
        }
        at++;
    }

    // ---- what is told

    private static int set(Iterable<Integer> members) {
        int all = 0;
        for (int k : members) {
            all |= 1 << k;
        }
        return all;
    }

    private boolean isKind(int t) {
        return t >= 0 && t < kinds.size();
    }

    private boolean isBody(int b) {
        return b >= 0 && b < bodies.size();
    }

    private List<Step> calls() {
        return steps.stream().filter(s -> s.word == 'v').toList();
    }

    private boolean isCall(int c) {
        return c >= 0 && c < calls().size();
    }

    private boolean isClass(int t) {
        return kinds.get(t).isClass;
    }

    private List<Integer> direct(int t) {
        List<Integer> ups = new ArrayList<>(kinds.get(t).faces);
        if (kinds.get(t).parent != NONE) {
            ups.add(kinds.get(t).parent);
        }
        return ups;
    }

    private Set<Integer> up(int t) {
        Set<Integer> all = new TreeSet<>();
        all.add(t);
        for (int u : direct(t)) {
            all.addAll(up(u));
        }
        return all;
    }

    private Set<Integer> down(int t) {
        Set<Integer> all = new TreeSet<>();
        for (int u = 0; u < kinds.size(); u++) {
            if (up(u).contains(t)) {
                all.add(u);
            }
        }
        return all;
    }

    private int deep(int t) {
        int most = 0;
        for (int u : direct(t)) {
            most = Math.max(most, deep(u));
        }
        return most + 1;
    }

    private int own(int t, int m) {
        return bodies.indexOf(new Body(t, m));
    }

    private int find(int t, int m, int without) {
        for (int c = t; c != NONE; c = kinds.get(c).parent) {
            if (own(c, m) != NONE && own(c, m) != without) {
                return own(c, m);
            }
        }
        List<Integer> having = new ArrayList<>();
        for (int i : up(t)) {
            if (!isClass(i) && own(i, m) != NONE) {
                having.add(i);
            }
        }
        List<Integer> lowest = new ArrayList<>();
        for (int i : having) {
            boolean other = false;
            for (int j : having) {
                other |= j != i && up(j).contains(i);
            }
            if (!other) {
                lowest.add(i);
            }
        }
        return lowest.size() == 1 ? own(lowest.get(0), m) : NONE;
    }

    private Set<Integer> foundAmong(Set<Integer> types, int x, int m) {
        Set<Integer> all = new TreeSet<>();
        for (int t : types) {
            if (isClass(t) && up(t).contains(x)) {
                all.add(find(t, m, NONE));
            }
        }
        all.remove(NONE);
        return all;
    }

    private Set<Integer> may(int c, Set<Integer> loaded) {
        Step s = calls().get(c);
        return foundAmong(loaded, s.type, s.message);
    }

    private final Set<Integer> reached = new TreeSet<>();
    private final Set<Integer> made = new TreeSet<>();

    private Set<Integer> targets(Step s) {
        if (s.word == 'v') {
            return foundAmong(made, s.type, s.message);
        }
        Set<Integer> all = new TreeSet<>();
        if (s.word == 's') {
            all.add(find(s.type, s.message, NONE));
            all.remove(NONE);
        }
        return all;
    }

    private Set<Integer> flow(boolean allMade) {
        reached.clear();
        made.clear();
        for (int t : now.loaded) {
            if (allMade && isClass(t)) {
                made.add(t);
            }
        }
        for (int b : now.roots) {
            if (now.loaded.contains(bodies.get(b).type)) {
                reached.add(b);
            }
        }
        int size = -1;
        while (size != reached.size() + made.size()) {
            size = reached.size() + made.size();
            for (Step s : steps) {
                if (reached.contains(s.body)) {
                    if (s.word == 'n' && now.loaded.contains(s.type)) {
                        made.add(s.type);
                    }
                    reached.addAll(targets(s));
                }
            }
        }
        return reached;
    }

    private Set<Integer> goes(int b) {
        Set<Integer> all = new TreeSet<>();
        if (flow(false).contains(b)) {
            for (Step s : steps) {
                if (s.body == b) {
                    all.addAll(targets(s));
                }
            }
        }
        return all;
    }

    int fault() {
        return fault;
    }

    int told(int what) {
        switch (what) {
            case 0: return kinds.size();
            case 1: return bodies.size();
            case 2: return steps.size();
            case 3: return calls().size();
            case 4: return text.length();
            case 5: return set(now.loaded);
            case 6: return set(now.roots);
            case 7:
                flow(false);
                return set(made);
            case 8: return set(flow(false));
            case 9: {
                Set<Integer> dead = new TreeSet<>();
                for (int b = 0; b < bodies.size(); b++) {
                    if (now.loaded.contains(bodies.get(b).type)) {
                        dead.add(b);
                    }
                }
                dead.removeAll(flow(false));
                return set(dead);
            }
            case 10: return set(flow(true));
            case 11: {
                Set<Integer> all = new TreeSet<>();
                for (int c = 0; c < 24; c++) {
                    if (now.bound.get(c) != NONE) {
                        all.add(c);
                    }
                }
                return set(all);
            }
            case 12: return Math.min(now.timesBound, 9999);
            case 13: return Math.min(now.timesWithdrawn, 9999);
            case 14: return Math.min(16, now.book.size());
            case 15: return past.size();
            default: return OUTSIDE;
        }
    }

    int type(int t, int what) {
        if (!isKind(t)) {
            return UNKNOWN;
        }
        switch (what) {
            case 0: return isClass(t) ? 1 : 0;
            case 1: return set(up(t));
            case 2: return set(down(t));
            case 3: return deep(t);
            case 4: {
                Set<Integer> all = new TreeSet<>();
                for (int m = 0; m < 6; m++) {
                    all.add(own(t, m));
                }
                all.remove(NONE);
                return set(all);
            }
            case 5: return now.loaded.contains(t) ? 0 : set(hurt(t));
            default: return OUTSIDE;
        }
    }

    private Set<Integer> hurt(int t) {
        State kept = now.copy();
        doLoad(t);
        Set<Integer> all = new TreeSet<>();
        for (int c = 0; c < 24; c++) {
            if (kept.bound.get(c) != NONE && now.bound.get(c) == NONE) {
                all.add(c);
            }
        }
        now = kept;
        return all;
    }

    int above(int t) {
        return !isKind(t) ? UNKNOWN : !isClass(t) ? WRONG : kinds.get(t).parent;
    }

    int users(int t) {
        return !isKind(t) ? UNKNOWN : isClass(t) ? WRONG : (int) down(t).stream().filter(this::isClass).count();
    }

    int common(int t, int u) {
        if (!isKind(t) || !isKind(u) || t == u) {
            return UNKNOWN;
        }
        if (!isClass(t) || !isClass(u)) {
            return WRONG;
        }
        int c = t;
        while (c != NONE && !up(u).contains(c)) {
            c = kinds.get(c).parent;
        }
        return c;
    }

    int isBelow(int t, int u) {
        return !isKind(t) || !isKind(u) || t == u ? UNKNOWN : down(u).contains(t) ? 1 : 0;
    }

    int makers(int t) {
        if (!isKind(t)) {
            return UNKNOWN;
        }
        if (!isClass(t)) {
            return WRONG;
        }
        return set(steps.stream().filter(s -> s.word == 'n' && s.type == t).map(Step::body).toList());
    }

    int found(int t, int m) {
        return !isKind(t) || m < 0 || m > 5 ? UNKNOWN : !isClass(t) ? WRONG : find(t, m, NONE);
    }

    int body(int b, int what) {
        if (!isBody(b)) {
            return UNKNOWN;
        }
        Body own = bodies.get(b);
        switch (what) {
            case 0: return own.type;
            case 1: return own.message;
            case 2: return (int) steps.stream().filter(s -> s.body == b).count();
            case 3: return flow(false).contains(b) ? 1 : 0;
            case 4: return comesTo(b, b, new HashSet<>()) ? 1 : 0;
            case 5: return isClass(own.type) ? find(own.type, own.message, b) : NONE;
            case 6: return set(goes(b));
            default: return OUTSIDE;
        }
    }

    private boolean comesTo(int from, int to, Set<Integer> seen) {
        for (int next : goes(from)) {
            if (next == to || seen.add(next) && comesTo(next, to, seen)) {
                return true;
            }
        }
        return false;
    }

    int callers(int b) {
        if (!isBody(b)) {
            return UNKNOWN;
        }
        Set<Integer> all = new TreeSet<>();
        for (int x = 0; x < bodies.size(); x++) {
            if (goes(x).contains(b)) {
                all.add(x);
            }
        }
        return set(all);
    }

    private Set<Integer> does(int c) {
        Step s = calls().get(c);
        return flow(false).contains(s.body) ? targets(s) : Set.of();
    }

    int call(int c, int what) {
        if (!isCall(c)) {
            return UNKNOWN;
        }
        Step s = calls().get(c);
        switch (what) {
            case 0: return s.body;
            case 1: return s.type;
            case 2: return s.message;
            case 3: return set(may(c, now.loaded));
            case 4: return set(does(c));
            case 5: return now.bound.get(c);
            case 6: {
                Set<Integer> all = new TreeSet<>();
                for (int t = 0; t < kinds.size(); t++) {
                    if (!now.loaded.contains(t) && hurt(t).contains(c)) {
                        all.add(t);
                    }
                }
                return set(all);
            }
            default: return OUTSIDE;
        }
    }

    // ---- what is done

    private void remember() {
        past.addLast(now.copy());
        if (past.size() > 8) {
            past.removeFirst();
        }
    }

    private void note(int call, int sort, int body) {
        List<Entry> book = now.book;
        book.add(0, new Entry(call, sort, body));
        now = new State(now.loaded, now.roots, now.bound, book, now.timesBound + sort, now.timesWithdrawn + 1 - sort);
    }

    private int doLoad(int t) {
        int had = now.loaded.size();
        now.loaded.addAll(up(t));
        for (int c = 0; c < calls().size(); c++) {
            int b = now.bound.get(c);
            if (b != NONE && !may(c, now.loaded).equals(Set.of(b))) {
                note(c, 0, b);
                now.bound.set(c, NONE);
            }
        }
        return now.loaded.size() - had;
    }

    int load(int t) {
        if (!isKind(t)) {
            return UNKNOWN;
        }
        if (now.loaded.contains(t)) {
            return NOT;
        }
        remember();
        return doLoad(t);
    }

    int root(int b, boolean is) {
        if (!isBody(b)) {
            return UNKNOWN;
        }
        if (now.roots.contains(b) == is) {
            return NOT;
        }
        remember();
        if (is) {
            now.roots.add(b);
        } else {
            now.roots.remove(b);
        }
        return set(now.roots);
    }

    private boolean canBind(int c) {
        return now.bound.get(c) == NONE && may(c, now.loaded).size() == 1;
    }

    private int doBind(int c) {
        int b = may(c, now.loaded).iterator().next();
        now.bound.set(c, b);
        note(c, 1, b);
        return b;
    }

    int bind(int c) {
        if (!isCall(c)) {
            return UNKNOWN;
        }
        if (!canBind(c)) {
            return NOT;
        }
        remember();
        return doBind(c);
    }

    int bindAll() {
        remember();
        int many = 0;
        for (int c = 0; c < calls().size(); c++) {
            if (canBind(c)) {
                doBind(c);
                many++;
            }
        }
        return many;
    }

    int loose(int c) {
        if (!isCall(c)) {
            return UNKNOWN;
        }
        if (now.bound.get(c) == NONE) {
            return NOT;
        }
        remember();
        return now.bound.set(c, NONE);
    }

    int drift(int n, int seed) {
        if (n < 1 || n > 40 || seed < 1 || seed > 999999) {
            return OUTSIDE;
        }
        if (kinds.isEmpty()) {
            return NOT;
        }
        remember();
        long x = seed;
        for (int i = 0; i < n; i++) {
            x = x * 16807 % 2147483647;
            int q = (int) (x / 4);
            int b = bodies.isEmpty() ? NONE : q % bodies.size();
            int c = calls().isEmpty() ? NONE : q % calls().size();
            if (x % 4 == 0 && !now.loaded.contains(q % kinds.size())) {
                doLoad(q % kinds.size());
            } else if (x % 4 == 1 && b != NONE && !now.roots.remove(b)) {
                now.roots.add(b);
            } else if (x % 4 == 2 && c != NONE && canBind(c)) {
                doBind(c);
            } else if (x % 4 == 3 && c != NONE) {
                now.bound.set(c, NONE);
            }
        }
        return set(now.loaded);
    }

    int undo() {
        if (past.isEmpty()) {
            return NOT;
        }
        now = past.removeLast();
        return past.size();
    }

    // ---- foretold

    int way(int b, int k) {
        if (!isBody(b)) {
            return UNKNOWN;
        }
        if (k < NONE) {
            return OUTSIDE;
        }
        List<Integer> best = firstRow(b);
        if (best == null) {
            return NONE;
        }
        return k == NONE ? best.size() - 1 : k < best.size() ? best.get(k) : NONE;
    }

    /** All rows of one length, in their order, until one ends at the body. */
    private List<Integer> firstRow(int b) {
        List<List<Integer>> rows = new ArrayList<>();
        Set<Integer> seen = new HashSet<>();
        for (int r : now.roots) {
            if (flow(false).contains(r)) {
                rows.add(List.of(r));
                seen.add(r);
            }
        }
        while (!rows.isEmpty()) {
            for (List<Integer> row : rows) {
                if (row.get(row.size() - 1) == b) {
                    return row;
                }
            }
            List<List<Integer>> longer = new ArrayList<>();
            for (List<Integer> row : rows) {
                for (int next : goes(row.get(row.size() - 1))) {
                    if (seen.add(next)) {
                        List<Integer> more = new ArrayList<>(row);
                        more.add(next);
                        longer.add(more);
                    }
                }
            }
            rows = longer;
        }
        return null;
    }

    int journal(int i, int what) {
        if (what < 0 || what > 2) {
            return OUTSIDE;
        }
        if (i < 0 || i >= 16 || i >= now.book.size()) {
            return NONE;
        }
        Entry e = now.book.get(i);
        return what == 0 ? e.call : what == 1 ? e.sort : e.body;
    }

    int holds(int c) {
        if (!isCall(c)) {
            return UNKNOWN;
        }
        if (now.bound.get(c) == NONE) {
            return NOT;
        }
        return Set.of(now.bound.get(c)).containsAll(does(c)) ? 1 : 0;
    }

    // ---- images

    int keep(int i) {
        if (i != 0 && i != 1) {
            return UNKNOWN;
        }
        images[i] = now.copy();
        past.clear();
        return 1;
    }

    int goBack(int i) {
        if (i != 0 && i != 1) {
            return UNKNOWN;
        }
        if (images[i] == null) {
            return NOT;
        }
        now = images[i].copy();
        past.clear();
        return 1;
    }
}
