import java.io.IOException;
import java.lang.management.ManagementFactory;
import java.lang.reflect.Field;
import java.lang.reflect.Method;
import java.lang.reflect.Modifier;
import java.nio.file.Files;
import java.nio.file.Path;
import java.util.ArrayList;
import java.util.List;
import java.util.Set;
import java.util.TreeSet;
import java.util.regex.Matcher;
import java.util.regex.Pattern;

/** The face of the document, and of LANGUAGE.md what can be seen from the file and the room. Runs in the project's folder. */
public final class RulesTest {
    private static final Set<String> FACE = Set.of("feed(int)", "program()", "fault()", "told(int)", "type(int,int)",
            "above(int)", "users(int)", "common(int,int)", "isBelow(int,int)", "makers(int)", "found(int,int)",
            "body(int,int)", "callers(int)", "call(int,int)", "load(int)", "root(int,boolean)", "bind(int)", "bindAll()",
            "loose(int)", "drift(int,int)", "undo()", "way(int,int)", "journal(int,int)", "holds(int)", "keep(int)",
            "goBack(int)");
    private static final Set<String> CONSTANTS = Set.of("NONE", "UNKNOWN", "OUTSIDE", "WRONG", "NOT", "FULL");
    private static final Set<Class<?>> ROWS_OF_NUMBERS = Set.of(int[].class, long[].class, char[].class, byte[].class);
    private static final int MOST_LINES = 60, MOST_PARAMETERS = 7, MOST_FIELDS = 20, MOST_CLASSES = 12;
    private static final String[] FORBIDDEN = {"\\bthrow\\b", "\\btry\\b", "\\bcatch\\b", "\\bsynchronized\\b",
            "\\bassert\\b", "->", "::", "\\bObject\\b", "\\bSystem\\.(?!arraycopy)", "Exact\\(", "\\bThread\\b",
            "\\bvar\\b", "@"};

    public static void main(String[] args) throws IOException {
        constants();
        face();
        String file = Files.readString(Path.of("src/main/java/EarlyBinder.java"));
        source(file);
        lengths(file);
        room();
        Check.finish();
    }

    private static void constants() {
        Check.due("NONE", EarlyBinder.NONE, -1);
        Check.due("UNKNOWN", EarlyBinder.UNKNOWN, -1000000001);
        Check.due("OUTSIDE", EarlyBinder.OUTSIDE, -1000000002);
        Check.due("WRONG", EarlyBinder.WRONG, -1000000003);
        Check.due("NOT", EarlyBinder.NOT, -1000000004);
        Check.due("FULL", EarlyBinder.FULL, -1000000005);
    }

    private static void face() {
        Class<?> binder = EarlyBinder.class;
        is("the class is public and final", Modifier.isPublic(binder.getModifiers()) && Modifier.isFinal(binder.getModifiers()));
        is("one constructor, public, of nothing", binder.getDeclaredConstructors().length == 1
                && binder.getConstructors().length == 1 && binder.getConstructors()[0].getParameterCount() == 0);
        Set<String> seen = new TreeSet<>();
        Set<String> names = new TreeSet<>();
        for (String call : FACE) {
            names.add(call.substring(0, call.indexOf('(')));
        }
        for (Method m : binder.getDeclaredMethods()) {
            if (Modifier.isPublic(m.getModifiers())) {
                seen.add(signature(m));
                is(m + " answers an int", m.getReturnType() == int.class);
            } else {
                is(m + " is private", Modifier.isPrivate(m.getModifiers()));
                is(m + " bears no name of the face", !names.contains(m.getName()));
            }
        }
        is("the public methods are those of the face: " + seen, seen.equals(FACE));
        for (Field f : binder.getDeclaredFields()) {
            boolean isConstant = CONSTANTS.contains(f.getName());
            is(f + " is public, if a constant of the face, else private", isConstant
                    ? Modifier.isPublic(f.getModifiers()) : Modifier.isPrivate(f.getModifiers()));
        }
        is("classes", binder.getDeclaredClasses().length <= MOST_CLASSES);
        inside(binder);
        for (Class<?> c : binder.getDeclaredClasses()) {
            is(c + " is static", Modifier.isStatic(c.getModifiers()));
            inside(c);
        }
    }

    private static String signature(Method m) {
        List<String> sorts = new ArrayList<>();
        for (Class<?> sort : m.getParameterTypes()) {
            sorts.add(sort.getName());
        }
        return m.getName() + "(" + String.join(",", sorts) + ")";
    }

    /** What holds for each class of the file. */
    private static void inside(Class<?> c) {
        int fields = 0;
        for (Field f : c.getDeclaredFields()) {
            if (Modifier.isStatic(f.getModifiers())) {
                is(f + " is final", Modifier.isFinal(f.getModifiers()));
                is(f + " is a constant", f.getType().isPrimitive() || f.getType() == String.class
                        || ROWS_OF_NUMBERS.contains(f.getType()));
            } else {
                fields++;
            }
        }
        is(c + ": fields", fields <= MOST_FIELDS);
        for (Method m : c.getDeclaredMethods()) {
            is(m + ": parameters", m.getParameterCount() <= MOST_PARAMETERS);
        }
    }

    private static void is(String what, boolean so) {
        Check.due(what, so ? 1 : 0, 1);
    }

    /** A method's lines lie between one that opens a block at a method's depth and the one that closes it. */
    private static void lengths(String file) {
        String[] lines = file.split("\n");
        int methods = 0;
        for (int i = 0; i < lines.length; i++) {
            Matcher open = Pattern.compile("^(    |        )\\S.*\\) \\{$").matcher(lines[i]);
            if (!open.matches()) {
                continue;
            }
            int end = i;
            while (end < lines.length && !lines[end].equals(open.group(1) + "}")) {
                end++;
            }
            is(lines[i].trim() + ": lines", end - i < MOST_LINES);
            methods++;
        }
        is("methods were seen: " + methods, methods > 80);
    }

    private static void source(String file) {
        String code = file.replaceAll("(?s)/\\*.*?\\*/", "").replaceAll("//[^\n]*", "");
        for (String word : FORBIDDEN) {
            Check.due("'" + word + "' in the file", Pattern.compile(word).matcher(code).find() ? 1 : 0, 0);
        }
        Matcher imports = Pattern.compile("import ([^;]*);").matcher(code);
        while (imports.find()) {
            Check.due("import " + imports.group(1), imports.group(1).equals("java.util.Arrays") ? 1 : 0, 1);
        }
        for (char letter : file.toCharArray()) {
            if (letter > 126 || letter < 32 && letter != '\n') {
                Check.due("letter in the file", letter, ' ');
            }
        }
    }

    /** What all calls of a run make stays in one room, so no call may make anything. */
    private static void room() {
        com.sun.management.ThreadMXBean counter =
                (com.sun.management.ThreadMXBean) ManagementFactory.getThreadMXBean();
        EarlyBinder x = new EarlyBinder();
        allCalls(x);
        long ahead = counter.getCurrentThreadAllocatedBytes();
        for (int n = 0; n < 200; n++) {
            allCalls(x);
        }
        long made = counter.getCurrentThreadAllocatedBytes() - ahead;
        Check.due("bytes made by 200 rounds of calls: " + made, made < 20000 ? 1 : 0, 1);
    }

    private static final int[] TEXT = "c99;c0;i;c1,2;m0 0;m1 0;m2 1;n0 1;n0 3;v0 0 0;v0 2 1;s1 0;".chars().toArray();

    private static void allCalls(EarlyBinder x) {
        for (int letter : TEXT) {
            x.feed(letter);
        }
        x.program();
        x.load(0);
        x.bindAll();
        x.root(0, true);
        x.load(3);
        x.drift(40, 5);
        x.keep(0);
        x.goBack(0);
        for (int i = 0; i < 16; i++) {
            x.told(i);
            x.type(0, i);
            x.body(0, i);
            x.call(0, i);
            x.way(1, i);
            x.journal(i, 0);
            x.found(1, i);
            x.loose(0);
            x.bind(0);
            x.holds(0);
            x.undo();
        }
    }
}
