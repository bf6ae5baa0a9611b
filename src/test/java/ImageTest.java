/** Promises 35 to 38: years by draws, images and the way back to them. */
public final class ImageTest {
    private static final Due DUE = new Due();

    private static void due(String call, long got, long want) {
        DUE.due(call, got, want);
    }

    public static void main(String[] args) {
        yearsRefused();
        draws();
        deathsInTurn();
        yearsByLaw();
        yearsEndAt999();
        latestYears();
        images();
        lawsOfImages();
        whatImagesDontKeep();
        DUE.finish("ImageTest");
    }

    private static void drawnAre(NineLives x, int cat, int life, int yet, int gold) {
        due("life of " + cat, x.drawn(cat, 0), life);
        due("yet of " + cat, x.drawn(cat, 1), yet);
        due("gold of " + cat, x.drawn(cat, 2), gold);
    }

    private static void yearsRefused() {
        DUE.about("promise 35");
        NineLives x = new NineLives();
        due("no cats", x.years(0, 1), -3);
        due("a number first", x.years(0, 0), -1);
        x.cat(0);
        due("seed -1", x.years(-1, 1), -1);
        due("seed 1000001", x.years(1000001, 1), -1);
        due("n 0", x.years(0, 0), -1);
        due("n 61", x.years(0, 61), -1);
        due("nothing is drawn", x.drawn(0, 0), -1);
        x.terms(1, 0);
        due("seed 1000000, n 60", x.years(1000000, 60), 0);
        due("seed 0", x.years(0, 1), 0);
        Due.row(x, 4, 0, 9);
        NineLives gone = new NineLives();
        Due.row(gone, 4, 0, 9);
        gone.die(0, 9);
        due("all gone", gone.years(7, 5), 0);
        drawnAre(gone, 0, -1, 0, 0);
    }

    /** From 5 on s is 17860, 711868, 200394, 46264, 41384, 658762: the draws of ten are 0, 8, 4, 4, 4, 2. */
    private static void draws() {
        DUE.about("promises 35, 36, draws");
        NineLives x = new NineLives();
        x.cat(2);
        x.cat(0);
        due("years", x.years(5, 1), 1);
        drawnAre(x, 0, 0, 7, 1);
        drawnAre(x, 1, 0, 8, 1);
        x.terms(1, 8);
        due("years", x.years(5, 3), 5);
        drawnAre(x, 0, 3, 5, 1 + 2 + 4);
        drawnAre(x, 1, 2, 6, 1 + 2 + 3);
        x.terms(1, 4);
        due("not below what it dares", x.years(5, 3), 2);
        drawnAre(x, 0, 0, 7, 1 + 1 + 1);
        drawnAre(x, 1, 1, 7, 1 + 1 + 2);
        due("drawn(2, 0)", x.drawn(2, 0), -1);
        due("drawn(-1, 0)", x.drawn(-1, 0), -1);
        due("drawn(0, 3)", x.drawn(0, 3), -1);
        due("drawn(0, -1)", x.drawn(0, -1), -1);
        NineLives late = new NineLives();
        Due.row(late, 4, 0, 9, 3, 1, 9);
        late.die(0, 9);
        due("one that is gone draws nothing", late.years(5, 1), 1);
        drawnAre(late, 1, 0, 0, 1);
    }

    private static void deathsInTurn() {
        DUE.about("promises 35, 36, deaths");
        NineLives x = Due.under("dares 10");
        x.cat(8);
        due("eight years", x.years(1, 8), 8);
        drawnAre(x, 0, 7, 0, 36);
        due("nine years", x.years(1, 9), 9);
        drawnAre(x, 0, -1, 0, 36);
        due("sixty years", x.years(1, 60), 9);
        drawnAre(x, 0, -1, 0, 36);
        due("all is as it was", x.of(0, 0), 8);
        due("all is as it was", x.of(0, 1), 255);
        due("the year, too", x.count(13), 0);
    }

    private static void yearsByLaw() {
        DUE.about("promise 35, by laws");
        NineLives x = Due.under("dares 0;earns year");
        x.cat(3);
        x.years(0, 3);
        drawnAre(x, 0, 3, 8, 3);
        NineLives gold = Due.under("dares 0;earns gold + 1;dares 10 if gold = 7");
        gold.cat(3);
        gold.years(0, 3);
        drawnAre(gold, 0, 3, 8, 7);
        due("by the gold on paper", gold.years(0, 4), 1);
        drawnAre(gold, 0, 0, 7, 15);
        NineLives most = Due.under("dares 0;earns 99");
        most.cat(0);
        for (int i = 0; i < 80; i++) {
            most.pass();
        }
        most.years(0, 60);
        drawnAre(most, 0, 0, 8, 9999);
    }

    private static void yearsEndAt999() {
        DUE.about("promise 35, at 999");
        NineLives x = Due.under("dares 10");
        x.cat(0);
        x.terms(0, 997);
        due("two years", x.years(0, 60), 2);
        drawnAre(x, 0, 2, 6, 2 + 3);
        x.terms(0, 999);
        due("none", x.years(0, 60), 0);
        drawnAre(x, 0, 0, 8, 0);
    }

    private static void latestYears() {
        DUE.about("promise 36");
        NineLives x = new NineLives();
        x.terms(1, 0);
        x.image(0);
        x.cat(4);
        x.years(3, 2);
        x.cat(5);
        due("one that came later", x.drawn(1, 0), -1);
        x.back(0);
        due("no cats", x.count(0), 0);
        drawnAre(x, 0, 4, 8, 10);
        due("refused", x.years(3, 2), -3);
        drawnAre(x, 0, 4, 8, 10);
        x.cat(1);
        x.years(3, 1);
        drawnAre(x, 0, 1, 8, 2);
    }

    private static void images() {
        DUE.about("promises 37, 38");
        NineLives x = new NineLives();
        due("image(-1)", x.image(-1), -1);
        due("image(2)", x.image(2), -1);
        due("back(-1)", x.back(-1), -1);
        due("back(2)", x.back(2), -1);
        due("back(0)", x.back(0), -2);
        due("back(1)", x.back(1), -2);
        x.cat(1);
        x.ship(7);
        x.sign(0, 0);
        x.clip(0, 3);
        x.seen(6);
        x.terms(2, 4);
        x.pass();
        due("image", x.image(1), 0);
        due("the other", x.back(0), -2);
        due("it can be undone still", x.undo(), 3);
        x.die(0, 8);
        x.clip(0, 5);
        x.cat(2);
        x.sign(1, 0);
        x.ship(1);
        x.forget();
        x.seen(1);
        x.seen(2);
        x.terms(0, 55);
        x.terms(1, 9);
        x.terms(2, 1);
        due("image", x.image(0), 0);
        due("back", x.back(1), 0);
        int[] of = {1, 509, 3, 2, 0, 0};
        for (int what = 0; what < 6; what++) {
            due("of(0, " + what + ")", x.of(0, what), of[what]);
        }
        int[] counts = {1, 1, 1, 1, 0, 0};
        for (int what = 0; what < 6; what++) {
            due("count(" + what + ")", x.count(what), counts[what]);
        }
        due("year", x.count(13), 1);
        due("drays", x.count(14), 1);
        due("mood", x.count(15), 4);
        due("seen", x.canBe(0), 64);
        due("undo", x.undo(), -3);
        due("back", x.back(0), 0);
        due("life", x.of(0, 0), 8);
        due("cats", x.count(0), 2);
        due("ships", x.count(2), 2);
        due("seen", x.count(3), 2);
        due("year", x.count(13), 55);
        x.die(0, 0);
        due("back again", x.back(0), 0);
        due("life", x.of(0, 0), 8);
        x.image(1);
        x.back(1);
        due("kept anew", x.of(0, 0), 8);
        NineLives ships = new NineLives();
        ships.image(0);
        ships.ship(5);
        ships.image(1);
        ships.back(0);
        ships.ship(6);
        ships.back(1);
        due("needs", ships.at(0, 0), 5);
    }

    private static void lawsOfImages() {
        DUE.about("promises 37, 38, laws");
        NineLives x = new NineLives();
        x.cat(0);
        Due.law(x, "earns 10");
        x.image(0);
        Due.law(x, "earns 20");
        x.force(1);
        x.image(1);
        due("back", x.back(0), 0);
        due("laws", x.count(4), 1);
        due("in force", x.count(12), -1);
        due("no such law", x.force(1), -2);
        due("its number again", Due.law(x, "earns 30"), 1);
        due("rich", x.rich(1), 30);
        due("back", x.back(1), 0);
        due("rich", x.rich(1), 20);
        due("in force", x.count(12), 1);
        due("earns", x.of(0, 6), 20);
    }

    private static void whatImagesDontKeep() {
        DUE.about("promises 37, 38, what is not kept");
        NineLives x = new NineLives();
        x.cat(0);
        x.image(0);
        Due.row(x, 1, 2);
        Due.law(x, "bars bars");
        Due.orders(x, "pass;die 0 as 0");
        x.cat(9);
        x.years(1, 1);
        x.feed(0, 0, 0, 0, 0);
        due("back", x.back(0), 0);
        due("status", x.status(), 0);
        due("mice", x.mice(), 1);
        due("stopped", x.stopped(), 1);
        due("bytes", x.count(6), 20);
        due("refused by -1", x.count(7), 1);
        due("refused by -3", x.count(9), 1);
        due("refused by -6", x.count(11), 1);
        due("drawn", x.drawn(0, 2), 1);
        x.end(0);
        Due.law(x, "bars bars");
        x.back(0);
        due("fault", x.fault(), 5);
        due("image", x.image(0), 0);
        due("back(1)", x.back(1), -2);
        due("status", x.status(), -2);
    }
}
