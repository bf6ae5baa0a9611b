import java.lang.reflect.Method;
import java.util.ArrayList;
import java.util.List;
import java.util.Random;

/** Random runs of calls, the same each time, on the program and on Oracle: all answers must be the same. */
public final class OracleTest {
    private static final int RUNS = 600;
    private static final int CALLS = 512;
    private static final String[] LAW_WORDS = {"cat", "life", "spent", "ear", "gold", "ship", "year", "mood"};
    private static final String[] ORDER_WORDS = {"year", "done", "latest", "alive", "life 0", "life 1", "gold 2", "crew 0", "crew 1"};
    private static final String[] ANY_TOKENS = {"earns", "dares", "shows", "bars", "if", "or", "and", "not", "(", ")",
        "[", "]", "+", "-", "*", "/", "%", "<", ">", "=", ";", "1", "7", "1000", "1001", "life", "gold", "cat", "year",
        "sign", "on", "die", "as", "clip", "pass", "times", "crew", "done", "alive", "latest", " ", "A", "!", "\u00e9", "lives"};

    private final Random random;
    private final NineLives program = new NineLives();
    private final Oracle oracle = new Oracle();
    private final List<String> told = new ArrayList<>();
    private final Due due;
    private int calls;

    private OracleTest(long seed, Due due) {
        random = new Random(seed);
        this.due = due;
    }

    public static void main(String[] args) throws Exception {
        Due due = new Due();
        for (int run = 0; run < RUNS && due.wrongs() == 0; run++) {
            due.about("run " + run);
            OracleTest test = new OracleTest(run, due);
            test.run();
            if (due.wrongs() != 0) {
                test.told.forEach(System.out::println);
            }
        }
        due.finish("OracleTest");
    }

    private long call(String name, int... args) throws Exception {
        if (calls >= CALLS || due.wrongs() != 0) {
            return 0;
        }
        calls++;
        Class<?>[] types = new Class<?>[args.length];
        Object[] values = new Object[args.length];
        StringBuilder text = new StringBuilder(name).append('(');
        for (int i = 0; i < args.length; i++) {
            types[i] = int.class;
            values[i] = args[i];
            text.append(i > 0 ? ", " : "").append(args[i]);
        }
        Method theirs = NineLives.class.getMethod(name, types);
        Method ours = Oracle.class.getDeclaredMethod(name, types);
        long got = ((Number) theirs.invoke(program, values)).longValue();
        long want = ((Number) ours.invoke(oracle, values)).longValue();
        told.add(text.append(") = ").append(got).toString());
        due.due(text.toString(), got, want);
        return got;
    }

    private int some(int below) {
        return random.nextInt(below);
    }

    /** Mostly one that can be, now and then one beside it. */
    private int near(int below) {
        int kind = some(40);
        return kind == 0 ? -1 : kind == 1 ? below : kind == 2 ? below + 1 : kind == 3 ? random.nextInt() : some(below);
    }

    private void run() throws Exception {
        int cats = 1 + some(6);
        if (some(3) == 0) {
            putBytes(rowBytes());
            call("row");
        }
        for (int i = 0; i < cats; i++) {
            call("cat", near(9));
        }
        for (int i = some(4); i > 0; i--) {
            call("ship", needs());
        }
        for (int i = some(4); i > 0; i--) {
            putText(lawText());
            call("law");
        }
        call("force", near(2));
        while (calls < CALLS && due.wrongs() == 0) {
            step();
        }
    }

    private void step() throws Exception {
        switch (some(44)) {
            case 0: call("cat", near(9)); break;
            case 1: call("ship", needs()); break;
            case 2: call("terms", near(3), pickTerm()); break;
            case 3: putText(lawText()); call("law"); call("fault"); break;
            case 4: case 5: case 6: putText(orderText()); call("orders"); call("stopped"); call("fault"); call("count", 5); break;
            case 7: call("force", near(6)); break;
            case 8: case 9: call("sign", near(6), near(3)); break;
            case 10: case 11: call("die", near(6), near(10)); break;
            case 12: call("clip", near(6), near(9)); break;
            case 13: case 14: call("pass"); break;
            case 15: case 16: call("undo"); break;
            case 17: case 18: call("had", near(6), near(10)); break;
            case 19: call("next", near(6), near(10)); break;
            case 20: call("likely", near(6), near(61)); break;
            case 21: case 22: call("seen", some(2) == 0 ? near(10) : some(4)); break;
            case 23: if (some(3) == 0) { call("forget"); } break;
            case 24: call("canBe", near(6)); break;
            case 25: call("look", near(6), near(2)); break;
            case 26: case 27: call("explained", near(6)); break;
            case 28: call("complete", near(3), near(2)); call("complete", some(3), some(2)); break;
            case 29: call("safe", near(3)); break;
            case 30: call("frauds"); call("unused"); break;
            case 31: call("passing", some(4) - 1); break;
            case 32: call("rich", near(6)); break;
            case 33: call("years", some(8) == 0 ? near(1_000_001) : some(1_000_001), near(61)); break;
            case 34: call("drawn", near(6), near(3)); break;
            case 35: if (some(3) == 0) { call("image", near(2)); } break;
            case 36: if (some(4) == 0) { call("back", near(2)); } break;
            case 37: call("status"); break;
            case 38: if (some(3) == 0) { putBytes(rowBytes()); call("row"); call("mice"); } break;
            case 39: call("end", near(30)); break;
            case 40: call("feed", random.nextInt(), random.nextInt(), 0, 538976288, random.nextInt()); break;
            case 41: if (some(6) == 0) { dieOut(); } break;
            case 42: seeWhatIsShown(); break;
            default: askAll(); break;
        }
    }

    /** Mostly so few lives that a crew can be completed. */
    private int needs() {
        return some(6) == 0 ? near(512) : 1 << some(9) | 1 << some(9);
    }

    private int pickTerm() {
        return Due.pick(random, 0, 1, 2, 5, 9, 10, 11, 990, 998, 999, 1000, -1, some(1000));
    }

    /** One cat dies until it is gone or a few lives are left. */
    private void dieOut() throws Exception {
        int cat = some(6);
        for (int i = 0; i < 9; i++) {
            call("die", cat, i);
        }
        call("die", cat, 9);
    }

    /** What was seen is what one cat would show, so that it can be explained. */
    private void seeWhatIsShown() throws Exception {
        call("forget");
        for (int i = 1 + some(8); i > 0; i--) {
            long shown = call("of", some(6), 8);
            call("seen", shown < 0 ? some(3) : (int) shown);
        }
        call("explained", some(6));
        call("canBe", some(6));
        call("look", some(6), some(2));
    }

    private void askAll() throws Exception {
        call("of", near(6), near(9));
        call("at", near(3), near(4));
        call("count", near(17));
        call("count", 7 + some(5));
    }

    private byte[] rowBytes() {
        byte[] bytes = new byte[some(22)];
        for (int i = 0; i < bytes.length; i++) {
            bytes[i] = (byte) (some(12) == 0 ? some(256) : some(9));
        }
        return bytes;
    }

    private void putText(String text) throws Exception {
        byte[] bytes = new byte[text.length()];
        for (int i = 0; i < bytes.length; i++) {
            bytes[i] = (byte) text.charAt(i);
        }
        putBytes(bytes);
    }

    private void putBytes(byte[] bytes) throws Exception {
        call("end", 0);
        for (int i = 0; i < bytes.length; i += 20) {
            int[] n = new int[5];
            for (int k = 0; k < 20; k++) {
                n[k / 4] = n[k / 4] << 8 | (i + k < bytes.length ? bytes[i + k] & 255 : 32);
            }
            call("feed", n);
        }
        call("end", bytes.length);
    }

    // ---- texts

    private String lawText() {
        StringBuilder text = new StringBuilder();
        for (int i = some(20) == 0 ? 13 : 1 + some(6); i > 0; i--) {
            String verb = new String[] {"earns", "dares", "shows", "bars"}[some(4)];
            text.append(verb).append(verb.equals("bars") ? "" : " " + sum(2, LAW_WORDS));
            text.append(some(3) == 0 ? "" : " if " + test(2, LAW_WORDS)).append(i > 1 ? ";" : "");
        }
        return spoilt(text.toString());
    }

    private String orderText() {
        StringBuilder text = new StringBuilder();
        for (int i = some(20) == 0 ? 13 : 1 + some(4); i > 0; i--) {
            text.append(order()).append(some(3) == 0 ? " times " + (some(9) == 0 ? some(23) : 1 + some(3)) : "");
            text.append(some(3) > 0 ? " if " + test(1, ORDER_WORDS) : "").append(i > 1 ? ";" : "");
        }
        return spoilt(text.toString());
    }

    private String order() {
        switch (some(4)) {
            case 0: return "sign " + number(6) + " on " + number(3);
            case 1: return "die " + number(6) + " as " + number(10);
            case 2: return "clip " + number(6) + " as " + number(9);
            default: return "pass";
        }
    }

    private String number(int below) {
        return some(4) == 0 ? "[" + sum(1, ORDER_WORDS) + "] % " + below : "" + some(below);
    }

    private String sum(int depth, String[] words) {
        StringBuilder text = new StringBuilder(part(depth, words));
        for (int i = some(3); i > 0; i--) {
            text.append(new String[] {" + ", "-", "*", " / ", "%"}[some(5)]).append(part(depth, words));
        }
        return text.toString();
    }

    private String part(int depth, String[] words) {
        if (depth > 0 && some(4) == 0) {
            return "[" + sum(depth - 1, words) + "]";
        }
        return some(2) == 0 ? words[some(words.length)] : "" + Due.pick(random, 0, 1, 2, 3, 4, 7, 9, 10, 100, 1000);
    }

    private String test(int depth, String[] words) {
        StringBuilder text = new StringBuilder(plain(depth, words));
        for (int i = some(3); i > 0; i--) {
            text.append(some(2) == 0 ? " or " : " and ").append(plain(depth, words));
        }
        return text.toString();
    }

    private String plain(int depth, String[] words) {
        String not = some(5) == 0 ? "not " : "";
        if (depth > 0 && some(4) == 0) {
            return not + "(" + test(depth - 1, words) + ")";
        }
        return not + sum(1, words) + new String[] {"<", " > ", "="}[some(3)] + sum(1, words);
    }

    /** Now and then a token too many, one too few, or the text cut off; never more than the tape holds. */
    private String spoilt(String text) {
        String spoilt = text;
        if (some(5) == 0) {
            int at = some(text.length() + 1);
            String token = ANY_TOKENS[some(ANY_TOKENS.length)];
            spoilt = text.substring(0, at) + token + text.substring(some(2) == 0 ? at : Math.min(text.length(), at + some(4)));
        }
        if (some(25) == 0) {
            StringBuilder any = new StringBuilder();
            for (int i = some(12); i > 0; i--) {
                any.append(ANY_TOKENS[some(ANY_TOKENS.length)]).append(some(2) == 0 ? " " : "");
            }
            spoilt = any.toString();
        }
        return spoilt.length() > 400 ? spoilt.substring(0, 400) : spoilt;
    }
}
