/** Promises 16 to 20: to sign, die, clip, pass, and to undo these. */
public final class DoingsTest {
    private static final Due DUE = new Due();

    private static void due(String call, long got, long want) {
        DUE.due(call, got, want);
    }

    public static void main(String[] args) {
        sign();
        die();
        clip();
        pass();
        goldAtMost();
        askedAsItWasAhead();
        undoEach();
        undoAtMost();
        whatEndsUndoing();
        undoBehindOrders();
        DUE.finish("DoingsTest");
    }

    private static void sign() {
        DUE.about("promise 16");
        NineLives x = Due.under("bars if ship = 1 and spent = 0");
        x.cat(0);
        x.cat(1);
        due("no ship", x.sign(0, 0), -2);
        x.ship(0);
        x.ship(0);
        due("no cat", x.sign(2, 0), -2);
        due("no cat", x.sign(-1, 0), -2);
        due("no ship", x.sign(0, 2), -2);
        due("no ship", x.sign(0, -1), -2);
        due("sign", x.sign(0, 0), 1);
        due("again", x.sign(0, 0), -3);
        due("another", x.sign(1, 0), 2);
        due("barred", x.sign(0, 1), -3);
        due("it stays", x.of(0, 4), 0);
        x.die(0, 5);
        due("no more barred", x.sign(0, 1), 1);
        due("it left", x.at(0, 1), 0b10);
        Due.row(x, 4, 0, 9);
        x.die(2, 9);
        due("gone", x.sign(2, 0), -3);
        x.force(-1);
        due("without the law", x.sign(1, 1), 2);
    }

    private static void die() {
        DUE.about("promise 17");
        NineLives x = new NineLives();
        x.ship(0);
        x.cat(4);
        x.sign(0, 0);
        due("next -1", x.die(0, -1), -1);
        due("next 10", x.die(0, 10), -1);
        due("a number first", x.die(5, 10), -1);
        due("no cat", x.die(1, 0), -2);
        due("the same life", x.die(0, 4), -3);
        due("9, though it has some", x.die(0, 9), -3);
        int left = 7;
        for (int life : new int[] {8, 0, 7, 1, 6, 2, 5, 3}) {
            due("die", x.die(0, life), left);
            due("at", x.of(0, 0), life);
            due("on board", x.of(0, 4), 0);
            due("not yet", x.die(0, life), -3);
            left--;
        }
        due("a life it has not yet", x.die(0, 0), -3);
        due("die", x.die(0, 9), 0);
        due("gone", x.of(0, 0), -1);
        due("no ship", x.of(0, 4), -1);
        due("crew", x.at(0, 1), 0);
        due("gone already", x.die(0, 9), -3);
        due("gone already", x.die(0, 3), -3);
    }

    private static void clip() {
        DUE.about("promise 18");
        NineLives x = new NineLives();
        due("no cat", x.clip(0, 0), -2);
        x.cat(3);
        due("ear 9", x.clip(0, 9), -1);
        due("ear -1", x.clip(0, -1), -1);
        due("a number first", x.clip(7, 9), -1);
        due("clip", x.clip(0, 0), 9);
        due("clip", x.clip(0, 8), 0);
        due("again", x.clip(0, 8), -3);
        due("its ear", x.of(0, 2), 8);
        Due.row(x, 1, 0, 5);
        x.die(1, 9);
        due("of one that is gone", x.clip(1, 6), 5);
    }

    private static void pass() {
        DUE.about("promise 19");
        NineLives x = new NineLives();
        x.cat(0);
        x.cat(8);
        Due.row(x, 2, 0, 9);
        due("pass", x.pass(), 1);
        due("pass", x.pass(), 2);
        x.die(2, 9);
        due("pass", x.pass(), 3);
        due("gold", x.of(0, 3), 3);
        due("gold", x.of(1, 3), 27);
        due("gold of one that is gone", x.of(2, 3), 6);
        x.terms(0, 998);
        due("pass", x.pass(), 999);
        due("at 999", x.pass(), -3);
        due("nothing more", x.count(16), 4 + 36 + 6);
    }

    private static void goldAtMost() {
        DUE.about("promise 19, 9999 at most");
        NineLives x = Due.under("earns 99");
        x.cat(0);
        for (int i = 0; i < 100; i++) {
            x.pass();
        }
        due("gold", x.of(0, 3), 9900);
        x.pass();
        due("gold", x.of(0, 3), 9999);
        x.pass();
        due("gold", x.of(0, 3), 9999);
        x.undo();
        x.undo();
        due("undone", x.of(0, 3), 9900);
    }

    private static void askedAsItWasAhead() {
        DUE.about("promise 19, asked as it was ahead");
        NineLives x = Due.under("earns gold + year + 1");
        x.cat(0);
        x.cat(0);
        x.pass();
        due("gold", x.of(0, 3), 1);
        due("gold", x.of(1, 3), 1);
        x.pass();
        due("gold", x.of(1, 3), 4);
        x.pass();
        due("gold", x.of(0, 3), 11);
    }

    private static void undoEach() {
        DUE.about("promise 20");
        NineLives x = new NineLives();
        x.cat(1);
        Due.row(x, 7, 0, 2);
        x.ship(0);
        x.ship(0);
        x.sign(1, 0);
        x.sign(1, 1);
        x.clip(1, 3);
        x.pass();
        x.die(1, 9);
        due("count", x.count(5), 5);
        due("undo", x.undo(), 1);
        due("life", x.of(1, 0), 7);
        due("its ship again", x.of(1, 4), 1);
        due("undo", x.undo(), 3);
        due("year", x.count(13), 0);
        due("gold", x.count(16), 0);
        due("undo", x.undo(), 2);
        due("ear", x.of(1, 2), 2);
        due("undo", x.undo(), 0);
        due("ship", x.of(1, 4), 0);
        due("undo", x.undo(), 0);
        due("ship", x.of(1, 4), -1);
        due("undo", x.undo(), -3);
        due("status", x.status(), -3);
        x.die(0, 6);
        x.undo();
        due("lives yet", x.of(0, 1), 509);
        due("a refused one is not kept", x.die(0, 1), -3);
        due("undo", x.undo(), -3);
    }

    private static void undoAtMost() {
        DUE.about("promise 20, 16 are kept");
        NineLives x = new NineLives();
        x.cat(0);
        for (int i = 0; i < 20; i++) {
            x.pass();
        }
        due("count", x.count(5), 16);
        for (int i = 0; i < 16; i++) {
            due("undo", x.undo(), 3);
        }
        due("undo", x.undo(), -3);
        due("year", x.count(13), 4);
        due("gold", x.of(0, 3), 4);
        x.pass();
        due("count", x.count(5), 1);
    }

    private static void whatEndsUndoing() {
        DUE.about("promise 20, what ends undoing");
        NineLives x = new NineLives();
        x.cat(0);
        x.pass();
        x.ship(3);
        x.seen(1);
        Due.law(x, "bars");
        x.force(0);
        x.years(1, 1);
        x.image(0);
        x.forget();
        x.cat(9);
        x.terms(0, 1000);
        x.row();
        due("still there", x.count(5), 1);
        x.cat(1);
        due("behind cat()", x.count(5), 0);
        due("undo", x.undo(), -3);
        x.pass();
        x.terms(2, 0);
        due("behind terms()", x.undo(), -3);
        x.pass();
        due("a row of mice", Due.row(x, 99), 0);
        due("behind row()", x.undo(), -3);
        x.pass();
        x.back(0);
        due("behind back()", x.count(5), 0);
        due("undo", x.undo(), -3);
        x.force(-1);
        x.pass();
        x.force(0);
        due("behind force()", x.undo(), 3);
        due("the law stays in force", x.count(12), 0);
    }

    private static void undoBehindOrders() {
        DUE.about("promise 20, by orders");
        NineLives x = new NineLives();
        x.cat(0);
        x.ship(0);
        x.clip(0, 1);
        due("orders", Due.orders(x, "sign 0 on 0;pass times 20;die 0 as 1"), 22);
        due("count", x.count(5), 16);
        due("undo", x.undo(), 1);
        for (int i = 0; i < 15; i++) {
            due("undo", x.undo(), 3);
        }
        due("undo", x.undo(), -3);
        due("year", x.count(13), 5);
        due("orders that can't be", Due.orders(x, "pass times 20;clip 0 as 1"), -3);
        due("year", x.count(13), 5);
        due("nothing to undo", x.count(5), 0);
        x.clip(0, 2);
        due("orders that can't be", Due.orders(x, "pass times 20;clip 0 as 2"), -3);
        due("what was ahead can be undone", x.undo(), 2);
        due("ear", x.of(0, 2), 1);
        NineLives many = new NineLives();
        many.cat(0);
        for (int i = 1; i <= 20; i++) {
            many.clip(0, i % 9);
        }
        due("orders that can't be", Due.orders(many, "pass times 20;clip 0 as 9"), -3);
        for (int i = 19; i >= 4; i--) {
            due("undo", many.undo(), 2);
            due("ear", many.of(0, 2), i % 9);
        }
        due("undo", many.undo(), -3);
    }
}
