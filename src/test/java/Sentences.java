import java.io.IOException;
import java.nio.file.Files;
import java.nio.file.Path;
import java.util.ArrayList;
import java.util.LinkedHashMap;
import java.util.List;
import java.util.Map;
import java.util.regex.Matcher;
import java.util.regex.Pattern;

/** The document, place by place ("Terms II", "Promise 7" ..), and which of its words a test was named by. */
final class Sentences {
    private static final Path DOCUMENT = Path.of("../shared/DOC.md");

    private final Map<String, String> places = new LinkedHashMap<>();
    private final Map<String, boolean[]> named = new LinkedHashMap<>();

    Sentences() throws IOException {
        String document = Files.readString(DOCUMENT).replaceAll("```\\w*", " ").replaceAll("\\s+", " ");
        add("What it is", between(document, "A port whose cats", "## The public face"));
        add("The public face", between(document, "public final class NineLives", "## Terms"));
        add("Terms I", between(document, "I. LIVES", "II. TEXTS"));
        add("Terms II", between(document, "II. TEXTS", "III. To SIGN"));
        add("Terms III", between(document, "III. To SIGN", "IV. YEARS"));
        add("Terms IV", between(document, "IV. YEARS", "The constants:"));
        add("The constants", between(document, "The constants:", "## Promise 1:"));
        for (int promise = 1; promise <= 40; promise++) {
            String text = between(document, "## Promise " + promise + ":", "## ");
            Matcher told = Pattern.compile("`[^`]*`: ").matcher(text);
            add("Promise " + promise, told.find() ? text.substring(told.end()) : text);
        }
        // what is told there to be free can't be tested
        add("Not promised", document.substring(document.indexOf("Nothing is promised beyond")).strip());
    }

    private static String between(String document, String first, String next) {
        int from = document.indexOf(first);
        int to = from < 0 ? -1 : document.indexOf(next, from + first.length());
        if (to < 0) {
            throw new IllegalStateException("the document has no " + first + " ahead of " + next);
        }
        return document.substring(from, to).strip();
    }

    private void add(String place, String text) {
        places.put(place, text);
        named.put(place, new boolean[text.length()]);
    }

    /** Notes that there is a test of these words; false, if they don't stand there. A place may go on with promises that lean on it. */
    boolean note(String placeAndPromises, String words) {
        String place = placeAndPromises.replaceAll(", promises? .*", "");
        String text = places.getOrDefault(place, "");
        String plain = words.replaceAll("\\s+", " ").strip();
        int from = plain.isEmpty() ? -1 : text.indexOf(plain);
        for (int i = from; from >= 0 && i < from + plain.length(); i++) {
            named.get(place)[i] = true;
        }
        return from >= 0;
    }

    /** What no test is named by, but for signs and the numbers of the parts. */
    List<String> withoutTest() {
        List<String> all = new ArrayList<>();
        for (Map.Entry<String, String> place : places.entrySet()) {
            boolean[] noted = named.get(place.getKey());
            StringBuilder left = new StringBuilder();
            for (int i = 0; i < noted.length; i++) {
                left.append(noted[i] ? '\n' : place.getValue().charAt(i));
            }
            for (String words : left.toString().split("\n+")) {
                if (words.matches(".*[A-Za-z0-9].*") && !words.strip().matches("I|II|III|IV|(I|II|III|IV)\\.")) {
                    all.add(place.getKey() + ": " + words.strip());
                }
            }
        }
        return all;
    }
}
