import java.io.IOException;
import java.lang.reflect.Constructor;
import java.lang.reflect.Field;
import java.lang.reflect.Method;
import java.lang.reflect.Modifier;
import java.nio.file.Files;
import java.nio.file.Path;
import java.util.Set;
import java.util.TreeSet;
import java.util.regex.Matcher;
import java.util.regex.Pattern;

/** The face of the document, and those rules of LANGUAGE.md that can be seen in the text and in the compiled class. */
public final class RulesTest {
    private static final String[] FACE = {
        "int feed(int)", "int hall()", "int fault()", "int told(int)", "int part(int,int)", "int length(int,int)",
        "int player(int,int)", "int instrument(int,int)", "int costs(int,int,int)", "int sign(int,int)",
        "int lags(int,int,int)", "int lead(int)", "int drift(int)", "long ends(int,int)", "long by(int,int)",
        "long mean(int)", "int edge(int)", "long starts(int,int,int)", "long isIt(int,int,int,int)", "long go(int,int)",
        "int bestGo()", "long lift(int,int,int)", "int bestLift(int)", "long saved(int,int)", "int apart()",
        "int bestWay(int)", "int lookers(int,int)", "long claps(int,int)", "int lost(int,int)", "int help(int,int)",
        "int out(int,int)", "int enter(int,int)", "int firstIn(int)", "int ahead(int)", "int write(int,int)",
        "int judge()", "int tear()", "int seed(int)", "int keep(int)", "int goBack(int)"};

    public static void main(String[] args) throws IOException {
        face();
        classes();
        String source = Files.readString(Path.of("src/main/java/CadenzaEnds.java"));
        words(source);
        library(source);
        constructors(source);
        Due.end("RulesTest");
    }

    private static void face() {
        Class<?> type = CadenzaEnds.class;
        Due.is("public final", type.getModifiers() & (Modifier.PUBLIC | Modifier.FINAL), Modifier.PUBLIC | Modifier.FINAL);
        Set<String> due = new TreeSet<>(Set.of(FACE));
        Set<String> names = faceNames();
        for (Method method : type.getDeclaredMethods()) {
            String text = method.getReturnType().getSimpleName() + " " + method.getName() + parameters(method);
            if (Modifier.isPublic(method.getModifiers())) {
                Due.is("public " + text + " is of the face", due.remove(text) ? 1 : 0, 1);
            } else {
                Due.is(text + " is private", Modifier.isPrivate(method.getModifiers()) ? 1 : 0, 1);
                Due.is(text + " bears a public name", names.contains(method.getName()) ? 1 : 0, 0);
            }
        }
        Due.is("methods of the face missing: " + due, due.size(), 0);
        Set<String> constants = new TreeSet<>(Set.of("NONE", "UNKNOWN", "OUTSIDE", "NOT", "FULL"));
        for (Field field : type.getDeclaredFields()) {
            boolean open = !Modifier.isPrivate(field.getModifiers());
            Due.is("field " + field.getName(), open == constants.contains(field.getName()) ? 1 : 0, 1);
        }
        Constructor<?>[] constructors = type.getDeclaredConstructors();
        Due.is("constructors", constructors.length, 1);
        Due.is("its parameters", constructors[0].getParameterCount(), 0);
        Due.is("it is public", Modifier.isPublic(constructors[0].getModifiers()) ? 1 : 0, 1);
        Due.is("NONE", CadenzaEnds.NONE, -1);
        Due.is("UNKNOWN", CadenzaEnds.UNKNOWN, -1000000001);
        Due.is("OUTSIDE", CadenzaEnds.OUTSIDE, -1000000002);
        Due.is("NOT", CadenzaEnds.NOT, -1000000003);
        Due.is("FULL", CadenzaEnds.FULL, -1000000004);
    }

    private static String parameters(Method method) {
        StringBuilder text = new StringBuilder("(");
        for (Class<?> type : method.getParameterTypes()) {
            text.append(text.length() == 1 ? "" : ",").append(type.getSimpleName());
        }
        return text.append(")").toString();
    }

    private static Set<String> faceNames() {
        Set<String> names = new TreeSet<>();
        for (String one : FACE) {
            names.add(one.replaceAll("^\\w+ |\\(.*", ""));
        }
        return names;
    }

    private static void classes() {
        Class<?>[] inside = CadenzaEnds.class.getDeclaredClasses();
        Due.is("at most twelve classes", inside.length <= 11 ? 1 : 0, 1);
        for (Class<?> type : inside) {
            Due.is(type.getName() + " is static", Modifier.isStatic(type.getModifiers()) ? 1 : 0, 1);
            int fields = 0;
            for (Field field : type.getDeclaredFields()) {
                boolean fixed = Modifier.isStatic(field.getModifiers());
                fields += fixed ? 0 : 1;
                Due.is(field + ": static is final", !fixed || Modifier.isFinal(field.getModifiers()) ? 1 : 0, 1);
            }
            Due.is(type.getName() + ": fields", fields <= 20 ? 1 : 0, 1);
            for (Method method : type.getDeclaredMethods()) {
                Due.is(method + ": parameters", method.getParameterCount() <= 7 ? 1 : 0, 1);
                boolean own = Modifier.isPrivate(method.getModifiers());
                Due.is(method + " bears a public name", own && faceNames().contains(method.getName()) ? 1 : 0, 0);
            }
        }
    }

    private static void words(String source) {
        String code = bare(source);
        String never = "\\b(throw|throws|try|catch|synchronized|assert|import static|package|protected|volatile|native"
                + "|Exact|Object|System\\.(?!arraycopy)\\w+|double|float)\\b|->|::|\\w+Exact\\b";
        Matcher found = Pattern.compile(never).matcher(code);
        while (found.find()) {
            Due.is("'" + found.group() + "' stands in the class", 1, 0);
        }
        Matcher imports = Pattern.compile("import ([\\w.]+);").matcher(code);
        while (imports.find()) {
            Due.is("import " + imports.group(1), imports.group(1).equals("java.util.Arrays") ? 1 : 0, 1);
        }
        int open = 0;
        int lines = 0;
        for (String line : source.split("\n")) {
            boolean begins = line.matches(" {4}( {4})?[\\w\\[\\]. ]*\\w+\\(.*\\) \\{");
            open = begins ? 1 : open;
            lines = begins ? 0 : lines + 1;
            Due.is("a method of over sixty lines: " + line, open == 1 && lines > 60 ? 1 : 0, 0);
            open = line.matches(" {4}( {4})?\\}") ? 0 : open;
        }
    }

    /** Rule 4: of the library only what stands there, and of that only what is used here. */
    private static void library(String source) {
        Set<String> fine = Set.of("Math.min", "Math.max", "Math.floorMod", "Integer.bitCount", "Arrays.fill");
        Matcher used = Pattern.compile("\\b(Math|Integer|Long|Arrays|List|String|StringBuilder|ArrayList)\\b(\\.\\w+)?").matcher(bare(source));
        while (used.find()) {
            boolean imported = used.group().equals("Arrays");
            Due.is(used.group() + " is of the library", imported || fine.contains(used.group()) ? 1 : 0, 1);
        }
    }

    /** Rule 12: a constructor hands out nothing of what it makes: no call in it takes an argument. */
    private static void constructors(String source) {
        Matcher body = Pattern.compile("(?s)\n( {4}| {8})(?:public )?([A-Z]\\w+)\\([^)]*\\) \\{\n(.*?)\n\\1\\}").matcher(bare(source));
        int found = 0;
        while (body.find()) {
            found++;
            Matcher call = Pattern.compile("(?<!for |if )\\b(\\w+)\\([^)]").matcher(body.group(3));
            Due.is("the constructor of " + body.group(2) + " hands out nothing", call.find() ? 1 : 0, 0);
            Due.is("the constructor of " + body.group(2) + " keeps itself", body.group(3).matches("(?s).*\\bthis\\b(?!\\.).*") ? 1 : 0, 0);
        }
        Due.is("constructors that were looked at", found, 3);
    }

    private static String bare(String source) {
        return source.replaceAll("(?s)/\\*.*?\\*/", "").replaceAll("//.*", "");
    }
}
