import java.util.LinkedHashMap;
import java.util.Map;

/**
 * All that can be seen of an object, each answer under its call. Some of it can only be seen by changing it,
 * and an object has 512 calls: so it is told in three parts, each of an object of its own.
 */
final class Standing {
    static final int PARTS = 3;
    private static final int CATS = 6;
    private static final int SHIPS = 3;

    private final Called port;
    private final Map<String, Long> answers = new LinkedHashMap<>();
    private String when = "";

    private Standing(Called port) {
        this.port = port;
    }

    static Map<String, Long> of(Called port, int part) {
        Standing standing = new Standing(port);
        switch (part) {
            case 0: standing.asked(); break;
            case 1: standing.undone(); break;
            default: standing.read(); break;
        }
        return standing.answers;
    }

    private long ask(String name, int... numbers) {
        long answer = port.call(name, numbers);
        answers.put(when + Called.told(name, numbers), answer);
        return answer;
    }

    private void asked() {
        ask("status");
        for (int what = 0; what <= 16; what++) {
            ask("count", what);
        }
        ask("mice");
        ask("fault");
        ask("stopped");
        catsAndShips(8);
        for (int cat = 0; cat < CATS; cat++) {
            for (int what = 0; what < 3; what++) {
                ask("drawn", cat, what);
            }
            ask("canBe", cat);
            ask("explained", cat);
            ask("look", cat, 0);
            ask("had", cat, 3);
            ask("likely", cat, 5);
        }
        for (int law = -1; law < 6; law++) {
            ask("rich", law);
        }
        for (int ship = 0; ship < SHIPS; ship++) {
            ask("complete", ship, 1);
            ask("safe", ship);
        }
        ask("frauds");
        ask("passing", -1);
        ask("unused");
    }

    private void catsAndShips(int mostOfCat) {
        for (int cat = 0; cat < CATS; cat++) {
            for (int what = 0; what <= mostOfCat; what++) {
                ask("of", cat, what);
            }
        }
        for (int ship = 0; ship < SHIPS; ship++) {
            for (int what = 0; what < 4; what++) {
                ask("at", ship, what);
            }
        }
    }

    /** What can be undone, to the last. */
    private void undone() {
        long undone = 0;
        for (int i = 1; i <= 17 && undone >= 0; i++) {
            when = i + " undone: ";
            undone = ask("undo");
            ask("count", 13);
            ask("count", 16);
            ask("frauds");
            ask("unused");
        }
        catsAndShips(5);
    }

    /** What is on the tape, and what the images keep. */
    private void read() {
        when = "the tape read: ";
        ask("orders");
        ask("fault");
        ask("stopped");
        for (int k = 0; k < 2; k++) {
            when = "back to " + k + ": ";
            ask("back", k);
            catsAndShips(6);
            for (int what = 0; what <= 6; what++) {
                ask("count", what);
            }
            for (int what = 12; what <= 16; what++) {
                ask("count", what);
            }
            ask("rich", 0);
            ask("rich", 5);
            ask("canBe", 0);
        }
    }
}
