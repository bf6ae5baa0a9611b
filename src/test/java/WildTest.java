import java.lang.reflect.InvocationTargetException;
import java.lang.reflect.Method;
import java.lang.reflect.Modifier;
import java.util.ArrayList;
import java.util.Comparator;
import java.util.List;
import java.util.Random;

/**
 * Wild calls, far beyond the 512th, with numbers of all sizes: none throws (rule 7 of LANGUAGE.md), and the same calls
 * answer the same (rule 13), whatever is asked of another object meanwhile (rule 5).
 */
public final class WildTest {
    private static final Due DUE = new Due();
    private static final int RUNS = 60;
    private static final int CALLS = 1500;
    private static final int[] EDGES = {Integer.MIN_VALUE, Integer.MIN_VALUE + 1, -1000, -3, -2, -1, 59, 60, 61, 399, 400, 401,
        511, 512, 998, 999, 1000, 999_999, 1_000_000, 1_000_001, Integer.MAX_VALUE - 1, Integer.MAX_VALUE};
    private static final String[] TEXTS = {"earns life*11;dares life;shows [life+year]%10;bars if ship=1",
        "earns 1000*1000*1000/[life-3];dares gold%[spent-1];shows 9-life/ear if not (life=year or cat<mood and 1/mood=0)",
        "dares 10;shows 0-1", "pass times 20", "die 0 as life 0+1;sign 1 on 0;clip 2 as life 2;pass if latest<7",
        "sign done on crew 0 times 2", "[[[[[[[[[", "earns 1" + "+1".repeat(60), "bars;".repeat(13), "\u00ff\u0000\u0080"};

    private final Random random;
    private final NineLives port = new NineLives();
    private final List<Method> face = new ArrayList<>();
    private String text = "";
    private int fed;

    private WildTest(long seed) {
        random = new Random(seed);
        for (Method method : NineLives.class.getDeclaredMethods()) {
            if (Modifier.isPublic(method.getModifiers())) {
                face.add(method);
            }
        }
        face.sort(Comparator.comparing(Method::getName));
    }

    public static void main(String[] args) throws Exception {
        for (int run = 0; run < RUNS; run++) {
            DUE.about("run " + run);
            WildTest alone = new WildTest(run);
            long[] answers = new long[CALLS];
            for (int call = 0; call < CALLS; call++) {
                answers[call] = alone.step();
            }
            WildTest again = new WildTest(run);
            WildTest beside = new WildTest(run + 1_000_000L);
            for (int call = 0; call < CALLS; call++) {
                beside.step();
                DUE.due("call " + call + " once more", again.step(), answers[call]);
            }
        }
        DUE.finish("WildTest");
    }

    private long step() throws Exception {
        if (fed < text.length()) {
            return fedOn();
        }
        if (!text.isEmpty()) {
            String was = text;
            text = "";
            boolean orders = was.matches("(pass|die|sign).*");
            return random.nextInt(3) == 0 ? port.end(was.length()) : orders ? port.orders() : port.law();
        }
        if (random.nextInt(12) == 0) {
            text = TEXTS[random.nextInt(TEXTS.length)];
            fed = 0;
            return port.end(0);
        }
        Method method = face.get(random.nextInt(face.size()));
        boolean forgetful = method.getName().equals("back") || method.getName().equals("forget");
        return forgetful && random.nextInt(4) != 0 ? port.status() : called(method);
    }

    /** The next twenty bytes of the text, blanks behind it. */
    private long fedOn() {
        int[] n = new int[5];
        for (int k = 0; k < 20; k++) {
            n[k / 4] = n[k / 4] << 8 | (fed + k < text.length() ? text.charAt(fed + k) : ' ');
        }
        fed += 20;
        return port.feed(n[0], n[1], n[2], n[3], n[4]);
    }

    private long called(Method method) throws Exception {
        Object[] numbers = new Object[method.getParameterCount()];
        StringBuilder told = new StringBuilder(method.getName());
        for (int i = 0; i < numbers.length; i++) {
            numbers[i] = number();
            told.append(' ').append(numbers[i]);
        }
        try {
            return ((Number) method.invoke(port, numbers)).longValue();
        } catch (InvocationTargetException e) {
            DUE.isSo(told + " threw " + e.getCause(), false);
            return 0;
        }
    }

    private int number() {
        switch (random.nextInt(8)) {
            case 0: return EDGES[random.nextInt(EDGES.length)];
            case 1: return random.nextInt();
            case 2: return random.nextInt(512);
            case 3: return random.nextInt(11);
            default: return random.nextInt(3);
        }
    }
}
