import java.io.IOException;

/** Tests of single sentences of the document: each names the place and the words, and tells runs of calls. */
final class Edges {
    private final Due due;
    private final Class<?> type;
    private final Sentences sentences = new Sentences();

    Edges(Due due, Class<?> type) throws IOException {
        this.due = due;
        this.type = type;
    }

    /** Each run is one of a new object. */
    void edge(String place, String words, String... runs) {
        due.about(type.getSimpleName() + ", " + place + ", \"" + words.replaceAll("\\s+", " ") + "\"");
        due.isSo("a promise is named", place.toLowerCase().contains("promise"));
        due.isSo("the document says so", sentences.note(place, words));
        due.isSo("there are runs", runs.length > 0);
        for (String run : runs) {
            new Run(type, due, run).check();
        }
    }

    void nothingIsLeftOut() {
        due.about("sentences that no test names");
        for (String words : sentences.withoutTest()) {
            due.isSo(words, false);
        }
    }

    // ---- runs that many tests share

    /** The least and the most number that a call can be given. */
    static final String LEAST = "-2147483648";
    static final String MOST = "2147483647";

    /**
     * A port in which there is all that a refused call could harm: two laws, two ships, four cats (2 is gone), two mice,
     * two sights, two images, six that can be undone, years that were drawn, a fault, a clause where orders stopped, a tape.
     */
    static final String PORT = """
            law "earns 3 + life;dares life % 4;shows [life + year] % 3;bars if ship = 1 and life = 5" = 0
            law "earns 9" = 1
            force(0) = -1
            ship(5) = 0; ship(129) = 1
            cat(0) = 0; cat(2) = 1
            row 4 0 9 9 9 9 3 2 5 1 = 2
            seen(1) = 1; seen(2) = 2
            image(0) = 0
            terms(2, 4) = 0
            pass() = 1; sign(0, 0) = 1; clip(1, 3) = 9; die(1, 5) = 7
            image(1) = 0
            die(2, 9) = 0
            pass() = 2
            years(77, 5)
            orders "pass;die 2 as 1" = -3
            law "bars bars" = -6
            tape "pass times 2"
            """;

    /** A law that is read to its end, or not further than a place. */
    static String lawIsGood(String text) {
        return "law '" + text + "' = 0\n fault() = -1\n count(4) = 1\n count(6) = 0";
    }

    static String lawFaults(String text, int place) {
        return "law '" + text + "' refused -6\n fault() = " + place + "\n count(4) = 0\n count(6) = 0";
    }

    /** Orders that are read to their end, whether they can be or not. */
    static String ordersAreGood(String text) {
        return "orders '" + text + "'\n fault() = -1\n count(6) = 0";
    }

    static String ordersFault(String text, int place) {
        return "orders '" + text + "' refused -6\n fault() = " + place + "\n stopped() = -1\n count(6) = 0";
    }

    /** What a cat at life 5, all others yet, earns by a sum; 6, if the sum is broken. */
    static String earns(String sum, int gold) {
        return "law 'earns " + sum + "' = 0\n force(0) = -1\n cat(5) = 0\n of(0, 6) = " + gold;
    }

    static String isBroken(String sum) {
        return earns(sum, 6);
    }

    /** A test is so of that cat, is not so, is broken: "not" turns the first two alone. */
    static String isSo(String test) {
        return earns("0;earns 1 if " + test + ";earns 2 if not (" + test + ")", 1);
    }

    static String isNotSo(String test) {
        return earns("0;earns 1 if " + test + ";earns 2 if not (" + test + ")", 2);
    }

    static String testIsBroken(String test) {
        return earns("0;earns 1 if " + test + ";earns 2 if not (" + test + ")", 0);
    }

    static String under(String law) {
        return "law '" + law + "' = 0\n force(0) = -1\n";
    }
}
