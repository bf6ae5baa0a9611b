import java.util.Random;

/** What all tests of the project need: answers compared with those that are due, texts put on the tape. */
final class Due {
    private int wrong;
    private int asked;
    private String where = "";

    /** What the answers from here on are about. */
    void about(String what) {
        where = what;
    }

    void due(String call, long got, long want) {
        asked++;
        if (got != want) {
            wrong++;
            if (wrong <= 40) {
                System.out.println(where + ": " + call + " answered " + got + ", due is " + want);
            }
        }
    }

    void isSo(String what, boolean so) {
        due(what, so ? 1 : 0, 1);
    }

    int wrongs() {
        return wrong;
    }

    /** Ends the test: the exit code is 1, if an answer was not as due. */
    void finish(String test) {
        System.out.println(test + ": " + asked + " answers, " + wrong + " of them not as due");
        if (wrong != 0 || asked == 0) {
            System.exit(1);
        }
    }

    /** Puts a text on an empty tape, each sign a byte. */
    static void put(NineLives x, String text) {
        for (int i = 0; i < text.length(); i += 20) {
            int[] n = new int[5];
            for (int k = 0; k < 20; k++) {
                int sign = i + k < text.length() ? text.charAt(i + k) & 255 : ' ';
                n[k / 4] = n[k / 4] << 8 | sign;
            }
            x.feed(n[0], n[1], n[2], n[3], n[4]);
        }
        x.end(text.length());
    }

    static int law(NineLives x, String text) {
        put(x, text);
        return x.law();
    }

    static int orders(NineLives x, String text) {
        put(x, text);
        return x.orders();
    }

    static int row(NineLives x, int... bytes) {
        StringBuilder text = new StringBuilder();
        for (int b : bytes) {
            text.append((char) b);
        }
        put(x, text.toString());
        return x.row();
    }

    /** A port with a law in force. */
    static NineLives under(String law) {
        NineLives x = new NineLives();
        if (law(x, law) != 0 || x.force(0) != -1) {
            throw new IllegalStateException("no law: " + law + " (fault " + x.fault() + ")");
        }
        return x;
    }

    /** Where a law's fault is; -1 without. */
    static int faultOfLaw(String text) {
        NineLives x = new NineLives();
        law(x, text);
        return x.fault();
    }

    static int faultOfOrders(String text) {
        NineLives x = new NineLives();
        orders(x, text);
        return x.fault();
    }

    static int pick(Random random, int... some) {
        return some[random.nextInt(some.length)];
    }
}
