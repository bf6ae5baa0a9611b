import java.lang.reflect.Constructor;
import java.lang.reflect.Executable;
import java.lang.reflect.Field;
import java.lang.reflect.Method;
import java.lang.reflect.Modifier;
import java.nio.charset.StandardCharsets;
import java.nio.file.Files;
import java.nio.file.Path;
import java.util.ArrayList;
import java.util.List;
import java.util.Set;
import java.util.StringJoiner;
import java.util.TreeSet;
import java.util.regex.Matcher;
import java.util.regex.Pattern;

/** The document's face, and those rules of LANGUAGE.md that can be seen in the source and in the classes. */
public final class LanguageTest {
    private static final Due DUE = new Due();
    private static final Path SOURCE = Path.of("src/main/java/NineLives.java");
    private static final Path DOCUMENT = Path.of("../shared/DOC.md");
    private static final String[] NEVER = {"throw", "throws", "try", "catch", "finally", "synchronized", "assert", "native",
        "volatile", "transient", "protected", "var", "Object", "System.out", "System.currentTimeMillis", "System.nanoTime",
        "Thread", "Random", "hashCode", "toString", "Exception", "Error"};

    public static void main(String[] args) throws Exception {
        String source = Files.readString(SOURCE, StandardCharsets.UTF_8);
        String code = withoutCommentsAndTexts(source);
        face();
        members();
        words(code);
        imports(source);
        lengths(source);
        DUE.finish("LanguageTest");
    }

    private static String withoutCommentsAndTexts(String source) {
        return source.replaceAll("(?s)/\\*.*?\\*/", " ").replaceAll("//[^\n]*", " ")
                .replaceAll("\"(\\\\.|[^\"\\\\])*\"", "\"\"").replaceAll("'(\\\\.|[^'\\\\])'", "' '");
    }

    private static void face() throws Exception {
        DUE.about("rule 1, the face");
        Set<String> want = new TreeSet<>();
        Matcher told = Pattern.compile("^    public (.*);$", Pattern.MULTILINE).matcher(Files.readString(DOCUMENT));
        while (told.find()) {
            want.add(told.group(1).replaceAll("int [a-z]+(?=[,)])", "int"));
        }
        Set<String> got = new TreeSet<>();
        for (Method m : NineLives.class.getDeclaredMethods()) {
            if (!Modifier.isPrivate(m.getModifiers()) && !m.isSynthetic()) {
                got.add(m.getReturnType() + " " + m.getName() + typesOf(m));
                DUE.isSo(m + " is public and its object's own", m.getModifiers() == Modifier.PUBLIC);
            }
        }
        for (Constructor<?> c : NineLives.class.getDeclaredConstructors()) {
            got.add(c.getName() + typesOf(c));
            DUE.isSo("the constructor is public", c.getModifiers() == Modifier.PUBLIC);
        }
        for (Field f : NineLives.class.getDeclaredFields()) {
            if (!Modifier.isPrivate(f.getModifiers()) && !f.isSynthetic()) {
                got.add(Modifier.toString(f.getModifiers()).replace("public ", "") + " " + f.getType() + " " + f.getName()
                        + " = " + f.get(null));
            }
        }
        DUE.isSo("face: due is " + want + ", found " + got, got.equals(want) && want.size() == 41);
        DUE.isSo("public and final", NineLives.class.getModifiers() == (Modifier.PUBLIC | Modifier.FINAL));
    }

    private static String typesOf(Executable call) {
        StringJoiner types = new StringJoiner(", ", "(", ")");
        for (Class<?> type : call.getParameterTypes()) {
            types.add(type.getName());
        }
        return types.toString();
    }

    private static List<Class<?>> classes() {
        List<Class<?>> all = new ArrayList<>(List.of(NineLives.class));
        all.addAll(List.of(NineLives.class.getDeclaredClasses()));
        return all;
    }

    private static void members() {
        DUE.about("rules 1, 2, 5, 11");
        Set<String> names = new TreeSet<>();
        for (Method m : NineLives.class.getMethods()) {
            names.add(m.getName());
        }
        DUE.isSo("twelve classes at most", classes().size() <= 12);
        for (Class<?> c : classes()) {
            int fields = 0;
            DUE.isSo(c + " is static", c == NineLives.class || Modifier.isStatic(c.getModifiers()));
            for (Field f : c.getDeclaredFields()) {
                fields += Modifier.isStatic(f.getModifiers()) ? 0 : 1;
                DUE.isSo(f + " is final", !Modifier.isStatic(f.getModifiers()) || Modifier.isFinal(f.getModifiers()));
            }
            DUE.isSo(c + " has twenty fields at most", fields <= 20);
            for (Method m : c.getDeclaredMethods()) {
                boolean own = c == NineLives.class && Modifier.isPublic(m.getModifiers());
                DUE.isSo(m + " bears no public name", own || !names.contains(m.getName()));
                DUE.isSo(m + " has seven parameters at most", m.getParameterCount() <= 7);
                DUE.isSo(m + " is no lambda", !m.isSynthetic());
            }
        }
    }

    private static void words(String code) {
        DUE.about("rules 2, 4, 5, 6, 13");
        for (String word : NEVER) {
            DUE.isSo("no " + word, !Pattern.compile("\\b" + Pattern.quote(word) + "\\b").matcher(code).find());
        }
        DUE.isSo("no lambda", !code.contains("->"));
        DUE.isSo("no method reference", !code.contains("::"));
        DUE.isSo("no static block", !Pattern.compile("static\\s*\\{").matcher(code).find());
        DUE.isSo("no texts joined by +", !Pattern.compile("\"\\s*\\+|\\+\\s*\"").matcher(code).find());
        DUE.isSo("nothing Exact", !code.contains("Exact("));
        DUE.isSo("no endless loop", !code.contains("while (true)") && !code.contains("(;;)"));
        Matcher library = Pattern.compile("\\b(Math|Integer|Long|Arrays|System)\\.(\\w+)").matcher(code);
        Set<String> allowed = Set.of("Math.min", "Math.max", "Integer.bitCount", "Arrays.fill", "System.arraycopy", "Long.MIN_VALUE");
        while (library.find()) {
            DUE.isSo(library.group() + " is allowed", allowed.contains(library.group()));
        }
    }

    private static void imports(String source) throws Exception {
        DUE.about("rules 3, 4");
        Matcher found = Pattern.compile("^import (.*);", Pattern.MULTILINE).matcher(source);
        while (found.find()) {
            DUE.isSo("import " + found.group(1), Set.of("java.util.Arrays", "java.util.ArrayList", "java.util.List").contains(found.group(1)));
        }
        DUE.isSo("no package", !Pattern.compile("^package ", Pattern.MULTILINE).matcher(source).find());
        DUE.isSo("signs 1 to 127 alone", source.chars().allMatch(sign -> sign > 0 && sign < 128));
        try (var files = Files.list(SOURCE.getParent())) {
            DUE.due("files", files.count(), 1);
        }
    }

    /** A method's head is a line with a bracket that opens at its indent; its end is the brace at the same indent. */
    private static void lengths(String source) {
        DUE.about("rule 11, short methods");
        String[] lines = source.split("\n");
        Pattern head = Pattern.compile("^( {4}| {8})(?!if|for|while|switch|else|do)\\S.*\\(.*\\) \\{$");
        int methods = 0;
        for (int i = 0; i < lines.length; i++) {
            Matcher m = head.matcher(lines[i]);
            if (m.matches()) {
                int end = i;
                while (!lines[end].equals(m.group(1) + "}")) {
                    end++;
                }
                methods++;
                DUE.isSo(lines[i].trim() + " has sixty lines at most", end - i + 1 <= 60);
            }
        }
        DUE.isSo("methods were found", methods > 100);
    }
}
