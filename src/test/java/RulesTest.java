import java.io.IOException;
import java.lang.management.ManagementFactory;
import java.lang.reflect.Member;
import java.lang.reflect.Modifier;
import java.nio.file.Files;
import java.nio.file.Path;
import java.util.ArrayList;
import java.util.List;
import java.util.Set;
import java.util.TreeSet;
import java.util.regex.Matcher;
import java.util.regex.Pattern;

/** The face of the document, and of LANGUAGE.md what can be seen from the file and the room. Runs in the project's folder. */
public final class RulesTest {
    private static final Set<String> FACE = Set.of("feed", "program", "fault", "told", "type", "above", "users", "common",
            "isBelow", "makers", "found", "body", "callers", "call", "load", "root", "bind", "bindAll", "loose", "drift",
            "undo", "way", "journal", "holds", "keep", "goBack");
    private static final String[] FORBIDDEN = {"\\bthrow\\b", "\\btry\\b", "\\bcatch\\b", "\\bsynchronized\\b",
            "\\bassert\\b", "->", "::", "\\bObject\\b", "\\bSystem\\.(?!arraycopy)", "Exact\\(", "\\bThread\\b",
            "\\bvar\\b", "@"};

    public static void main(String[] args) throws IOException {
        constants();
        face();
        source(Files.readString(Path.of("src/main/java/EarlyBinder.java")));
        room();
        Check.finish();
    }

    private static void constants() {
        Check.due("NONE", EarlyBinder.NONE, -1);
        Check.due("UNKNOWN", EarlyBinder.UNKNOWN, -1000000001);
        Check.due("OUTSIDE", EarlyBinder.OUTSIDE, -1000000002);
        Check.due("WRONG", EarlyBinder.WRONG, -1000000003);
        Check.due("NOT", EarlyBinder.NOT, -1000000004);
        Check.due("FULL", EarlyBinder.FULL, -1000000005);
    }

    private static void face() {
        Set<String> seen = new TreeSet<>();
        List<Member> members = new ArrayList<>(List.of(EarlyBinder.class.getDeclaredMethods()));
        for (Member m : members) {
            boolean isPublic = Modifier.isPublic(m.getModifiers());
            Check.due(m + " is public or private", isPublic || Modifier.isPrivate(m.getModifiers()) ? 1 : 0, 1);
            Check.due(m + " is of the face or not", FACE.contains(m.getName()) ? 1 : 0, isPublic ? 1 : 0);
            if (isPublic) {
                Check.due(m + " is there once", seen.add(m.getName()) ? 1 : 0, 1);
            }
        }
        Check.due("methods of the face", seen.size(), FACE.size());
        for (Class<?> c : EarlyBinder.class.getDeclaredClasses()) {
            Check.due(c + " is static", Modifier.isStatic(c.getModifiers()) ? 1 : 0, 1);
            Check.due(c + ": fields", c.getDeclaredFields().length <= 22 ? 1 : 0, 1);
        }
        Check.due("classes", EarlyBinder.class.getDeclaredClasses().length <= 12 ? 1 : 0, 1);
    }

    private static void source(String file) {
        String code = file.replaceAll("(?s)/\\*.*?\\*/", "").replaceAll("//[^\n]*", "");
        for (String word : FORBIDDEN) {
            Check.due("'" + word + "' in the file", Pattern.compile(word).matcher(code).find() ? 1 : 0, 0);
        }
        Matcher imports = Pattern.compile("import ([^;]*);").matcher(code);
        while (imports.find()) {
            Check.due("import " + imports.group(1), imports.group(1).equals("java.util.Arrays") ? 1 : 0, 1);
        }
        for (char letter : file.toCharArray()) {
            if (letter > 126 || letter < 32 && letter != '\n') {
                Check.due("letter in the file", letter, ' ');
            }
        }
    }

    /** What all calls of a run make stays in one room, so no call may make anything. */
    private static void room() {
        com.sun.management.ThreadMXBean counter =
                (com.sun.management.ThreadMXBean) ManagementFactory.getThreadMXBean();
        EarlyBinder x = new EarlyBinder();
        allCalls(x);
        long ahead = counter.getCurrentThreadAllocatedBytes();
        for (int n = 0; n < 200; n++) {
            allCalls(x);
        }
        long made = counter.getCurrentThreadAllocatedBytes() - ahead;
        Check.due("bytes made by 200 rounds of calls: " + made, made < 20000 ? 1 : 0, 1);
    }

    private static final int[] TEXT = "c99;c0;i;c1,2;m0 0;m1 0;m2 1;n0 1;n0 3;v0 0 0;v0 2 1;s1 0;".chars().toArray();

    private static void allCalls(EarlyBinder x) {
        for (int letter : TEXT) {
            x.feed(letter);
        }
        x.program();
        x.load(0);
        x.bindAll();
        x.root(0, true);
        x.load(3);
        x.drift(40, 5);
        x.keep(0);
        x.goBack(0);
        for (int i = 0; i < 16; i++) {
            x.told(i);
            x.type(0, i);
            x.body(0, i);
            x.call(0, i);
            x.way(1, i);
            x.journal(i, 0);
            x.found(1, i);
            x.loose(0);
            x.bind(0);
            x.holds(0);
            x.undo();
        }
    }
}
