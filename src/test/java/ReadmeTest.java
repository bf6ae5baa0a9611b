import java.lang.reflect.Method;
import java.net.URI;
import java.nio.file.Files;
import java.nio.file.Path;
import java.util.ArrayList;
import java.util.List;
import java.util.regex.Matcher;
import java.util.regex.Pattern;
import javax.tools.JavaCompiler;
import javax.tools.JavaFileObject;
import javax.tools.SimpleJavaFileObject;
import javax.tools.ToolProvider;

/**
 * The calls that README.md shows as an example, with the answers that it tells of them: its own Java lines are compiled
 * and run, one behind the other, each call's answer compared with the number at the head of its remark.
 * Its list of calls must be the document's face.
 */
public final class ReadmeTest {
    private static final Due DUE = new Due();
    private static final Path README = Path.of("README.md");
    private static final Path DOCUMENT = Path.of("../shared/DOC.md");
    private static final String EXAMPLE = "ReadmeExample";
    private static final Pattern BLOCK = Pattern.compile("^```java\\n(.*?)^```$", Pattern.MULTILINE | Pattern.DOTALL);
    private static final Pattern NEW_PORT = Pattern.compile("NineLives \\w+ = new NineLives\\(\\);");
    private static final Pattern CALL = Pattern.compile("((?:int|long) (\\w+) = )?(.*\\)); +// (-?\\d+)(: .*)?");

    public static void main(String[] args) throws Exception {
        String readme = Files.readString(README);
        example(readme);
        listOfCalls(readme);
        DUE.finish("ReadmeTest");
    }

    private static void example(String readme) throws Exception {
        DUE.about("README.md, the example");
        String methods = "";
        StringBuilder lines = new StringBuilder();
        Matcher block = BLOCK.matcher(readme);
        while (block.find()) {
            if (block.group(1).startsWith("static ")) {
                methods += block.group(1);
            } else {
                block.group(1).lines().filter(line -> !line.isBlank()).forEach(line -> lines.append(checked(line)));
            }
        }
        Class<?> example = compiled("public final class " + EXAMPLE + " {\n" + methods
                + "public static void run(java.util.List<Object[]> told) {\n" + lines + "}\n}\n");
        List<Object[]> told = new ArrayList<>();
        if (example != null) {
            example.getMethod("run", List.class).invoke(null, told);
        }
        for (Object[] one : told) {
            DUE.due((String) one[0], (Long) one[1], (Long) one[2]);
        }
        DUE.isSo("there are calls", told.size() > 60);
    }

    /** A line as it stands, with what it answered and what is told of it noted behind it. */
    private static String checked(String line) {
        if (NEW_PORT.matcher(line).matches()) {
            return line + "\n";
        }
        Matcher call = CALL.matcher(line);
        DUE.isSo("an answer is told: " + line, call.matches());
        if (!call.matches()) {
            return "";
        }
        boolean named = call.group(1) != null;
        String text = call.group(3).replace("\\", "\\\\").replace("\"", "\\\"");
        return (named ? call.group(1) + call.group(3) + ";\n" : "") + "told.add(new Object[] {\"" + text + "\", (long) "
                + (named ? call.group(2) : call.group(3)) + ", " + call.group(4) + "L});\n";
    }

    /** Beside this test's own classes, so that it finds the program; null, if it is no Java. */
    private static Class<?> compiled(String source) throws Exception {
        String here = Path.of(ReadmeTest.class.getProtectionDomain().getCodeSource().getLocation().toURI()).toString();
        JavaCompiler compiler = ToolProvider.getSystemJavaCompiler();
        JavaFileObject file = new SimpleJavaFileObject(URI.create("string:///" + EXAMPLE + ".java"), JavaFileObject.Kind.SOURCE) {
            @Override
            public CharSequence getCharContent(boolean ignoreEncodingErrors) {
                return source;
            }
        };
        boolean good = compiler.getTask(null, null, null, List.of("-cp", here, "-d", here), null, List.of(file)).call();
        DUE.isSo("it is Java", good);
        return good ? Class.forName(EXAMPLE) : null;
    }

    private static void listOfCalls(String readme) throws Exception {
        DUE.about("README.md, the list of calls");
        List<String> listed = new ArrayList<>();
        Matcher row = Pattern.compile("^\\| `((?:int |long )?\\w+\\(.*?\\))` \\|", Pattern.MULTILINE).matcher(readme);
        while (row.find()) {
            listed.add(row.group(1));
        }
        List<String> face = new ArrayList<>();
        Matcher call = Pattern.compile("^    public (.*\\));$", Pattern.MULTILINE).matcher(Files.readString(DOCUMENT));
        while (call.find()) {
            face.add(call.group(1));
        }
        DUE.isSo("due is " + face + ", listed are " + listed, listed.equals(face) && face.size() == 40);
        for (Method method : NineLives.class.getDeclaredMethods()) {
            if (java.lang.reflect.Modifier.isPublic(method.getModifiers())) {
                DUE.isSo(method.getName() + " is shown or listed", readme.contains(method.getName() + "("));
            }
        }
    }
}
