import java.io.IOException;
import java.lang.reflect.Method;
import java.lang.reflect.Modifier;
import java.nio.file.Files;
import java.nio.file.Path;
import java.util.Map;
import java.util.TreeMap;
import java.util.regex.Matcher;
import java.util.regex.Pattern;

/** What README.md shows of the class is so: each line's answer, and no call is left out. */
public final class ReadmeTest {
    private static final Pattern TEXT = Pattern.compile("String text = \"([^\"]*)\";");
    private static final Pattern LINE = Pattern.compile("\nx\\.(\\w+)\\(([^)]*)\\); +// (-?\\w+)");
    private static final Map<String, Long> REFUSALS = Map.of("NONE", (long) CadenzaEnds.NONE, "UNKNOWN", (long) CadenzaEnds.UNKNOWN,
            "OUTSIDE", (long) CadenzaEnds.OUTSIDE, "NOT", (long) CadenzaEnds.NOT, "FULL", (long) CadenzaEnds.FULL);

    public static void main(String[] args) throws IOException, ReflectiveOperationException {
        String readme = Files.readString(Path.of("README.md"));
        Map<String, Method> face = face();
        lines(readme, face);
        for (String name : face.keySet()) {
            Due.is(name + " is named", readme.matches("(?s).*\n\\| `[\\w ]*\\b" + name + "\\b[\\w ]*` \\|.*") ? 1 : 0, 1);
        }
        Due.end("ReadmeTest");
    }

    private static void lines(String readme, Map<String, Method> face) throws ReflectiveOperationException {
        CadenzaEnds x = new CadenzaEnds();
        Matcher text = TEXT.matcher(readme);
        Due.is("a text stands there", text.find() ? 1 : 0, 1);
        Due.feed(x, text.group(1));
        Matcher line = LINE.matcher(readme);
        int lines = 0;
        while (line.find()) {
            lines++;
            Method method = face.get(line.group(1));
            Due.is(line.group(1) + " is a call", method != null ? 1 : 0, 1);
            long answer = ((Number) method.invoke(x, numbers(line.group(2)))).longValue();
            String due = line.group(3);
            Due.is(line.group().strip(), answer, REFUSALS.containsKey(due) ? REFUSALS.get(due) : Long.parseLong(due));
        }
        Due.is("lines with an answer: more than twenty", lines > 20 ? 1 : 0, 1);
    }

    private static Object[] numbers(String told) {
        String[] words = told.isEmpty() ? new String[0] : told.split(", ");
        Object[] numbers = new Object[words.length];
        for (int i = 0; i < words.length; i++) {
            numbers[i] = Integer.parseInt(words[i]);
        }
        return numbers;
    }

    private static Map<String, Method> face() {
        Map<String, Method> face = new TreeMap<>();
        for (Method method : CadenzaEnds.class.getDeclaredMethods()) {
            if (Modifier.isPublic(method.getModifiers())) {
                face.put(method.getName(), method);
            }
        }
        return face;
    }
}
