/** Promises 1 to 6, 24, 25, 31, 33, 39, 40: what stands in the port, and what calls are refused by. */
public final class PortTest {
    private static final Due DUE = new Due();

    private static void due(String call, long got, long want) {
        DUE.due(call, got, want);
    }

    public static void main(String[] args) {
        newObject();
        cats();
        of();
        ofByLaw();
        ships();
        crewOfShip();
        barredFromShip();
        terms();
        seenAndForgotten();
        frauds();
        unused();
        counts();
        statusOfEachCall();
        statusIsLeftAlone();
        anyNumbers();
        DUE.finish("PortTest");
    }

    private static void newObject() {
        DUE.about("promise 1");
        NineLives x = new NineLives();
        int[] counts = {0, 0, 0, 0, 0, 0, 0, 0, 0, 0, 0, 0, -1, 0, 1, 0, 0};
        for (int what = 0; what < counts.length; what++) {
            due("count(" + what + ")", x.count(what), counts[what]);
        }
        due("status", x.status(), 0);
        due("mice", x.mice(), 0);
        due("fault", x.fault(), -1);
        due("stopped", x.stopped(), -1);
        due("of", x.of(0, 0), -1);
        due("at", x.at(0, 0), -1);
        due("drawn", x.drawn(0, 0), -1);
        due("frauds", x.frauds(), 0);
        due("unused", x.unused(), 511);
        due("passing", x.passing(-1), 0);
        due("rich", x.rich(-1), 0);
        due("undo", x.undo(), -3);
        due("back", x.back(0), -2);
        NineLives y = new NineLives();
        y.cat(1);
        due("another object's cats", x.count(0), 0);
    }

    private static void cats() {
        DUE.about("promise 2");
        NineLives x = new NineLives();
        due("cat(-1)", x.cat(-1), -1);
        due("cat(9)", x.cat(9), -1);
        for (int cat = 0; cat < 6; cat++) {
            due("cat", x.cat(8 - cat), cat);
            due("its life", x.of(cat, 0), 8 - cat);
            due("its others", x.of(cat, 1), 511 - (1 << 8 - cat));
        }
        due("a seventh", x.cat(0), -5);
        due("a number first", x.cat(9), -1);
        due("count", x.count(0), 6);
    }

    private static void of() {
        DUE.about("promise 3");
        NineLives x = new NineLives();
        x.cat(4);
        int[] first = {4, 495, 9, 0, -1, 0, 5, 1, 4};
        for (int what = 0; what < 9; what++) {
            due("of(0, " + what + ")", x.of(0, what), first[what]);
        }
        due("of(0, 9)", x.of(0, 9), -1);
        due("of(0, -1)", x.of(0, -1), -1);
        due("of(1, 0)", x.of(1, 0), -1);
        due("of(-1, 0)", x.of(-1, 0), -1);
        x.ship(1);
        x.sign(0, 0);
        x.clip(0, 2);
        x.terms(1, 7);
        x.pass();
        x.die(0, 8);
        int[] then = {8, 239, 2, 5, 0, 1, 9, 7, 8};
        for (int what = 0; what < 9; what++) {
            due("then of(0, " + what + ")", x.of(0, what), then[what]);
        }
        for (int life = 0; life < 8; life++) {
            x.die(0, life);
        }
        x.die(0, 9);
        int[] gone = {-1, 0, 2, 5, -1, 9, -1, -1, -1};
        for (int what = 0; what < 9; what++) {
            due("gone of(0, " + what + ")", x.of(0, what), gone[what]);
        }
    }

    private static void ofByLaw() {
        DUE.about("promise 3, by a law");
        NineLives x = Due.under("earns life + 20;earns 500 if life = 1;earns 0 - 5 if life = 2;dares 11 if life = 1;"
                + "dares 0 - 1 if life = 2;shows 10 if life = 1;shows 0-1 if life = 2;shows 7 if life = 3");
        for (int life = 0; life < 4; life++) {
            x.cat(life);
        }
        int[][] due = {{20, 1, 0}, {99, 10, 9}, {0, 0, 0}, {23, 1, 7}};
        for (int cat = 0; cat < 4; cat++) {
            for (int what = 6; what < 9; what++) {
                due("of(" + cat + ", " + what + ")", x.of(cat, what), due[cat][what - 6]);
            }
        }
        x.force(-1);
        due("without", x.of(0, 6), 1);
        due("words of a law", wordsOfLaw(), 1);
    }

    /** Each word of a law is what it should be of one cat: 1, if so. */
    private static int wordsOfLaw() {
        NineLives x = new NineLives();
        x.cat(0);
        x.cat(5);
        x.ship(0);
        x.ship(0);
        x.sign(1, 1);
        x.die(1, 3);
        x.clip(1, 6);
        x.pass();
        x.terms(2, 8);
        x.terms(0, 77);
        Due.law(x, "earns 42 if cat=1 and life=3 and spent=1 and ear=6 and gold=4 and ship=1 and year=77 and mood=8");
        x.force(0);
        boolean other = x.of(0, 6) == 1;
        Due.law(x, "earns 43 if ship = 0 - 1 and ear = 9 and cat = 0");
        x.force(1);
        boolean without = x.of(0, 6) == 43;
        x.force(0);
        return x.of(1, 6) == 42 && other && without ? 1 : 0;
    }

    private static void ships() {
        DUE.about("promise 4");
        NineLives x = new NineLives();
        due("ship(-1)", x.ship(-1), -1);
        due("ship(512)", x.ship(512), -1);
        due("ship(0)", x.ship(0), 0);
        due("ship(511)", x.ship(511), 1);
        due("ship(5)", x.ship(5), 2);
        due("a fourth", x.ship(1), -5);
        due("a number first", x.ship(512), -1);
        due("needs", x.at(1, 0), 511);
        due("count", x.count(2), 3);
    }

    private static void crewOfShip() {
        DUE.about("promise 5");
        NineLives x = new NineLives();
        x.ship(0b110100010);
        x.cat(1);
        x.cat(7);
        x.cat(0);
        x.sign(0, 0);
        x.sign(2, 0);
        due("crew", x.at(0, 1), 0b101);
        due("missing", x.at(0, 2), 0b110100000);
        x.sign(1, 0);
        due("crew", x.at(0, 1), 0b111);
        due("missing", x.at(0, 2), 0b100100000);
        x.die(0, 5);
        due("missing by another life", x.at(0, 2), 0b100000010);
        due("at(0, 4)", x.at(0, 4), -1);
        due("at(0, -1)", x.at(0, -1), -1);
        due("at(1, 0)", x.at(1, 0), -1);
        due("at(-1, 1)", x.at(-1, 1), -1);
        due("none barred", x.at(0, 3), 0);
    }

    private static void barredFromShip() {
        DUE.about("promise 5, barred");
        NineLives x = Due.under("bars if ship = 1 and life > 3;bars if 1 / [life - 4] = 5;bars if cat = 0 and ship = 2");
        x.ship(0);
        x.ship(0);
        x.ship(0);
        x.cat(3);
        x.cat(4);
        x.cat(8);
        due("ship 0", x.at(0, 3), 0);
        due("ship 1", x.at(1, 3), 0b110);
        due("ship 2", x.at(2, 3), 0b001);
        for (int life = 0; life < 8; life++) {
            x.die(2, life);
        }
        due("with more spent", x.at(1, 3), 0b110);
        x.die(2, 9);
        due("gone is not barred", x.at(1, 3), 0b010);
        NineLives all = Due.under("bars");
        all.ship(0);
        all.cat(1);
        due("bars without an if", all.at(0, 3), 1);
    }

    private static void terms() {
        DUE.about("promise 6");
        NineLives x = new NineLives();
        due("year", x.terms(0, 999), 0);
        due("year", x.terms(0, 5), 999);
        due("drays", x.terms(1, 10), 1);
        due("drays", x.terms(1, 0), 10);
        due("mood", x.terms(2, 9), 0);
        due("mood", x.terms(2, 9), 9);
        int[][] wrong = {{0, 1000}, {1, 11}, {2, 10}, {0, -1}, {1, -1}, {2, -1}, {3, 0}, {-1, 0}};
        for (int[] w : wrong) {
            due("terms(" + w[0] + ", " + w[1] + ")", x.terms(w[0], w[1]), -1);
        }
        due("year", x.count(13), 5);
        due("drays", x.count(14), 0);
        due("mood", x.count(15), 9);
        x.cat(3);
        due("dares by drays", x.of(0, 7), 0);
    }

    private static void seenAndForgotten() {
        DUE.about("promises 24, 25");
        NineLives x = new NineLives();
        due("seen(-1)", x.seen(-1), -1);
        due("seen(10)", x.seen(10), -1);
        for (int i = 1; i <= 8; i++) {
            due("seen", x.seen(i + 1), i);
        }
        due("a ninth", x.seen(0), -5);
        due("a number first", x.seen(10), -1);
        due("count", x.count(3), 8);
        due("forget", x.forget(), 8);
        due("forget", x.forget(), 0);
        due("seen anew", x.seen(0), 1);
        due("status is seen's", x.status(), 0);
    }

    private static void frauds() {
        DUE.about("promise 31");
        NineLives x = new NineLives();
        x.cat(0);
        x.cat(1);
        x.cat(2);
        due("not clipped", x.frauds(), 0);
        x.clip(0, 0);
        x.clip(1, 0);
        x.clip(2, 8);
        due("clipped", x.frauds(), 0b110);
        x.die(1, 0);
        due("it is that life now", x.frauds(), 0b100);
        x.die(0, 4);
        due("it was that life", x.frauds(), 0b101);
        Due.row(x, 5, 0, 4);
        due("from a row", x.frauds(), 0b1101);
        x.die(3, 9);
        due("gone", x.frauds(), 0b101);
    }

    private static void unused() {
        DUE.about("promise 33");
        NineLives x = new NineLives();
        x.cat(0);
        x.cat(8);
        x.cat(8);
        due("unused", x.unused(), 0b011111110);
        x.die(0, 1);
        due("unused", x.unused(), 0b011111101);
        Due.row(x, 4, 0, 9);
        due("unused", x.unused(), 0b011101101);
        x.die(3, 9);
        due("gone is at none", x.unused(), 0b011111101);
    }

    private static void counts() {
        DUE.about("promise 39");
        NineLives x = new NineLives();
        x.cat(0);
        Due.row(x, 3, 0, 9, 8, 8, 9);
        x.die(1, 9);
        x.ship(1);
        x.ship(2);
        x.seen(4);
        Due.law(x, "bars");
        x.force(0);
        x.pass();
        x.terms(2, 6);
        x.pass();
        x.feed(0, 0, 0, 0, 0);
        x.cat(9);
        x.sign(9, 0);
        x.sign(8, 0);
        x.sign(1, 0);
        x.die(1, 0);
        x.clip(0, 0);
        x.clip(0, 0);
        x.ship(0);
        x.ship(0);
        x.end(0);
        x.law();
        x.orders();
        x.row();
        x.feed(0, 0, 0, 0, 0);
        int[] counts = {3, 2, 3, 1, 1, 2, 20, 1, 2, 3, 1, 3, 0, 2, 1, 6, 2 * (1 + 9)};
        for (int what = 0; what < counts.length; what++) {
            due("count(" + what + ")", x.count(what), counts[what]);
        }
        due("count(17)", x.count(17), -1);
        due("count(-1)", x.count(-1), -1);
    }

    private static void statusOfEachCall() {
        DUE.about("promise 40");
        NineLives x = new NineLives();
        int[] got = {x.cat(9), x.status(), x.ship(-1), x.status(), x.terms(3, 0), x.status(), x.row(), x.status(),
            x.law(), x.status(), x.orders(), x.status(), x.force(0), x.status(), x.sign(0, 0), x.status(),
            x.die(0, 10), x.status(), x.clip(0, 9), x.status(), x.undo(), x.status(), x.seen(10), x.status(),
            x.years(0, 0), x.status(), x.years(0, 1), x.status(), x.image(2), x.status(), x.back(0), x.status()};
        int[] want = {-1, -1, -1, -1, -1, -1, -6, -6, -6, -6, -6, -6, -2, -2, -2, -2, -1, -1, -1, -1, -3, -3, -1, -1,
            -1, -1, -3, -3, -1, -1, -2, -2};
        for (int i = 0; i < want.length; i++) {
            due("answer " + i, got[i], want[i]);
        }
        x.terms(0, 999);
        due("pass", x.pass(), -3);
        due("status", x.status(), -3);
        due("counts", x.count(7), 8);
        due("counts", x.count(8), 3);
        due("counts", x.count(9), 3);
        due("counts", x.count(11), 3);
    }

    private static void statusIsLeftAlone() {
        DUE.about("promise 40, calls that it does not tell of");
        NineLives x = new NineLives();
        x.force(4);
        x.forget();
        x.feed(1, 2, 3, 4, 5);
        x.end(99);
        x.of(7, 7);
        x.at(7, 7);
        x.mice();
        x.fault();
        x.stopped();
        x.had(0, 0);
        x.next(0, 0);
        x.likely(0, 0);
        x.canBe(0);
        x.look(0, 0);
        x.explained(0);
        x.complete(0, 0);
        x.safe(0);
        x.frauds();
        x.passing(5);
        x.unused();
        x.rich(3);
        x.drawn(0, 0);
        x.count(99);
        due("status", x.status(), -2);
        due("refused by -1", x.count(7), 0);
        due("refused by -2", x.count(8), 1);
        due("force(NONE) is not refused", x.force(-1), -1);
        due("status", x.status(), 0);
        due("refused by -1", x.count(7), 0);
    }

    /** No call throws, whatever the numbers are; each object is used for far fewer than 512 calls. */
    private static void anyNumbers() {
        DUE.about("any numbers");
        int[] some = {Integer.MIN_VALUE, -1000000, -7, 31, 32, 33, 64, 1000, 1000000, Integer.MAX_VALUE};
        for (int a : some) {
            NineLives x = new NineLives();
            x.cat(0);
            x.ship(1);
            anyNumber(x, a);
            for (int b : some) {
                anyTwo(x, a, b);
            }
        }
    }

    private static void anyNumber(NineLives x, int a) {
        due("cat", x.cat(a), -1);
        due("ship", x.ship(a < 512 && a > 0 ? 512 : a), -1);
        due("force", x.force(a), -2);
        due("end", x.end(a), -1);
        due("seen", x.seen(a), -1);
        due("canBe", x.canBe(a), -1);
        due("explained", x.explained(a), -1);
        due("safe", x.safe(a), -1);
        due("passing", x.passing(a), -1);
        due("rich", x.rich(a), -1);
        due("image", x.image(a), -1);
        due("back", x.back(a), -1);
        due("count", x.count(a), -1);
    }

    private static void anyTwo(NineLives x, int a, int b) {
        due("of", x.of(a, b) + x.of(0, b), -2);
        due("at", x.at(a, b) + x.at(0, b), -2);
        due("terms", x.terms(a, b), -1);
        due("sign", x.sign(a, b), -2);
        due("die", x.die(a, b), -1);
        due("clip", x.clip(a, b), -1);
        due("had", x.had(a, b) + x.had(0, b), -2);
        due("next", x.next(a, b) + x.next(0, b), -2);
        due("likely", x.likely(a, b), -1);
        due("look", x.look(a, b) + x.look(0, b), -2);
        due("complete", x.complete(a, b) + x.complete(0, b), -2);
        due("years", x.years(a < 0 || a > 1000000 ? a : -1, b), -1);
        due("drawn", x.drawn(a, b), -1);
    }
}
