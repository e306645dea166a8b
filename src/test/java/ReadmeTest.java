import java.io.IOException;
import java.nio.file.Files;
import java.nio.file.Path;
import java.util.regex.Matcher;
import java.util.regex.Pattern;

/** Holds README.md to its word: its text is fed, its calls are made, each answers what stands behind it. */
public final class ReadmeTest {
    private static final Pattern TEXT = Pattern.compile("letter : \"([^\"]*)\"");
    private static final Pattern CALL = Pattern.compile("(?m)^x\\.(\\w+)\\(([^)]*)\\);\\s*// (-?\\d+)");

    public static void main(String[] args) throws IOException, ReflectiveOperationException {
        String page = Files.readString(Path.of("README.md"));
        EarlyBinder x = new EarlyBinder();
        Matcher text = TEXT.matcher(page);
        Check.due("README.md has a text", text.find() ? 1 : 0, 1);
        Check.feed(x, text.group(1));
        int calls = 0;
        Matcher call = CALL.matcher(page);
        while (call.find()) {
            Check.due(call.group(), answer(x, call.group(1), call.group(2)), Integer.parseInt(call.group(3)));
            calls++;
        }
        Check.due("lines that begin with a call", calls, page.split("\nx\\.").length - 1);
        Check.due("README.md has calls", calls > 10 ? 1 : 0, 1);
        Check.finish();
    }

    private static int answer(EarlyBinder x, String name, String list) throws ReflectiveOperationException {
        String[] words = list.isEmpty() ? new String[0] : list.split(", ");
        Class<?>[] sorts = new Class<?>[words.length];
        Object[] values = new Object[words.length];
        for (int i = 0; i < words.length; i++) {
            boolean isNumber = words[i].matches("-?\\d+");
            sorts[i] = isNumber ? int.class : boolean.class;
            values[i] = isNumber ? (Object) Integer.valueOf(words[i]) : Boolean.valueOf(words[i]);
        }
        return (Integer) EarlyBinder.class.getMethod(name, sorts).invoke(x, values);
    }
}
