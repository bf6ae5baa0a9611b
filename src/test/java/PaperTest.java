/** Promises 21 to 23, 26 to 30, 32, 34: what is told on paper. The answers are reckoned by hand. */
public final class PaperTest {
    private static final Due DUE = new Due();

    private static void due(String call, long got, long want) {
        DUE.due(call, got, want);
    }

    public static void main(String[] args) {
        had();
        hadBeyondDeaths();
        next();
        likely();
        likelyInTurn();
        canBe();
        look();
        explained();
        explainedByLaw();
        complete();
        safe();
        passing();
        passingInYears();
        rich();
        nothingChanges();
        DUE.finish("PaperTest");
    }

    private static NineLives withRow(String law, int... bytes) {
        NineLives x = Due.under(law);
        Due.row(x, bytes);
        return x;
    }

    private static void had() {
        DUE.about("promise 21");
        NineLives x = new NineLives();
        due("no cat", x.had(0, 1), -1);
        x.cat(2);
        due("n -1", x.had(0, -1), -1);
        due("n 10", x.had(0, 10), -1);
        due("cat -1", x.had(-1, 1), -1);
        due("n 0", x.had(0, 0), 0);
        due("n 1", x.had(0, 1), 3_000_000);
        due("n 2", x.had(0, 2), 6_600_000);
        NineLives calm = Due.under("earns 10;dares 0");
        calm.cat(1);
        due("no danger", calm.had(0, 9), 90_000_000);
        NineLives one = withRow("earns 1;dares 1", 0, 0, 9);
        due("n 7", one.had(0, 7), 5_217_031);
        due("n 8, cut", one.had(0, 8), 5_695_327);
        due("n 9, cut", one.had(0, 9), 6_125_794);
        NineLives year = Due.under("earns year + 1;dares 0");
        year.cat(4);
        year.terms(0, 3);
        due("the year is as now", year.had(0, 3), 12_000_000);
        one.die(0, 9);
        due("gone", one.had(0, 1), -1);
        due("gone", one.had(0, 0), -1);
    }

    private static void hadBeyondDeaths() {
        DUE.about("promise 21, beyond deaths");
        NineLives two = withRow("earns 10;earns 20 if life = 1;dares 5", 0, 1, 9);
        due("n 1", two.had(0, 1), 10_000_000);
        due("n 2", two.had(0, 2), 25_000_000);
        due("n 3", two.had(0, 3), 37_500_000);
        NineLives spent = withRow("earns spent * 10;dares 10", 0, 1, 9);
        due("n 1", spent.had(0, 1), 70_000_000);
        due("with one more spent", spent.had(0, 2), 150_000_000);
        due("then it is gone", spent.had(0, 3), 150_000_000);
        NineLives all = Due.under("earns spent;dares 10");
        all.cat(3);
        due("all nine lives", all.had(0, 9), 36_000_000);
        NineLives order = withRow("earns 0;earns 50 if life = 2 and spent = 7;earns 30 if life = 1 and spent = 8;dares 10", 0, 2, 9);
        due("an order of its own", order.had(0, 3), 80_000_000);
        NineLives ship = Due.under("earns ship * 7 + cat;dares ear");
        ship.ship(0);
        ship.ship(0);
        ship.cat(0);
        ship.cat(0);
        ship.sign(1, 1);
        ship.clip(1, 0);
        due("all else as now", ship.had(1, 2), 16_000_000);
    }

    private static void next() {
        DUE.about("promise 22");
        NineLives x = new NineLives();
        due("no cat", x.next(0, 0), -1);
        x.cat(0);
        due("n -1", x.next(0, -1), -1);
        due("n 10", x.next(0, 10), -1);
        due("n 0: the lowest", x.next(0, 0), 1);
        due("n 1", x.next(0, 1), 8);
        due("n 9", x.next(0, 9), 8);
        NineLives like = Due.under("earns 5;earns 9 if life = 3 or life = 6");
        like.cat(0);
        like.cat(3);
        due("the lowest", like.next(0, 1), 3);
        NineLives zero = Due.under("earns 5");
        zero.cat(4);
        due("life 0", zero.next(0, 3), 0);
        due("not the one it is at", like.next(1, 1), 6);
        NineLives later = withRow("earns 50 if life = 1;dares 10 if life = 1;earns 30 if life = 2;earns 0 if spent = 8;dares 0 if life = 2",
                0, 2, 9);
        due("for one year", later.next(0, 1), 1);
        due("for two years", later.next(0, 2), 2);
        later.die(0, 1);
        due("one left", later.next(0, 5), 2);
        later.die(0, 2);
        due("none yet", later.next(0, 5), -1);
        later.die(0, 9);
        due("gone", later.next(0, 5), -1);
    }

    private static void likely() {
        DUE.about("promise 23");
        NineLives x = withRow("dares 3", 0, 0, 9);
        due("no cat", x.likely(1, 1), -1);
        due("n -1", x.likely(0, -1), -1);
        due("n 61", x.likely(0, 61), -1);
        due("n 0", x.likely(0, 0), 1_000_000_000_000L);
        due("n 1", x.likely(0, 1), 700_000_000_000L);
        due("n 12", x.likely(0, 12), 13_841_287_201L);
        due("n 13, cut", x.likely(0, 13), 9_688_901_040L);
        due("n 14, cut", x.likely(0, 14), 6_782_230_728L);
        x.die(0, 9);
        due("gone", x.likely(0, 0), 0);
        due("gone", x.likely(0, 60), 0);
        due("gone, n 61", x.likely(0, 61), -1);
    }

    private static void likelyInTurn() {
        DUE.about("promise 23, in turn");
        NineLives two = withRow("dares 5", 0, 1, 9);
        due("n 1", two.likely(0, 1), 1_000_000_000_000L);
        due("n 2", two.likely(0, 2), 750_000_000_000L);
        due("n 3", two.likely(0, 3), 500_000_000_000L);
        NineLives spent = withRow("dares 10 if spent = 7;dares 0 if spent = 8", 0, 1, 9);
        due("with one more spent", spent.likely(0, 60), 1_000_000_000_000L);
        NineLives lowest = withRow("dares 10;dares 0 if life = 1", 0, 2, 9);
        due("the lowest", lowest.likely(0, 60), 1_000_000_000_000L);
        NineLives later = withRow("dares 10;dares 0 if life = 2", 1, 2, 9);
        due("the lowest, then the next", later.likely(0, 60), 1_000_000_000_000L);
        NineLives nine = Due.under("dares 10");
        nine.cat(4);
        due("n 8", nine.likely(0, 8), 1_000_000_000_000L);
        due("n 9", nine.likely(0, 9), 0);
        NineLives year = withRow("dares 10 if year > 0", 0, 0, 9);
        year.terms(1, 0);
        due("the year is as now", year.likely(0, 60), 1_000_000_000_000L);
    }

    private static void canBe() {
        DUE.about("promise 26");
        NineLives x = Due.under("shows [life + year] % 4");
        due("no cat", x.canBe(0), -1);
        x.cat(0);
        due("nothing seen", x.canBe(0), 511);
        x.seen(1);
        due("now", x.canBe(0), 0b000100010);
        x.seen(2);
        due("in a year", x.canBe(0), 0b000100010);
        x.seen(0);
        due("in two", x.canBe(0), 0);
        x.terms(0, 3);
        x.forget();
        x.seen(3);
        due("from now on", x.canBe(0), 0b100010001);
        NineLives spent = Due.under("shows spent");
        Due.row(spent, 3, 0, 9);
        spent.seen(8);
        due("spent as now", spent.canBe(0), 511);
        spent.die(0, 9);
        due("gone", spent.canBe(0), 0);
        spent.forget();
        spent.seen(9);
        due("gone", spent.canBe(0), 511);
        NineLives late = Due.under("shows year % 7");
        late.cat(0);
        late.terms(0, 999);
        late.seen(999 % 7);
        late.seen(1000 % 7);
        due("years on paper go on", late.canBe(0), 511);
    }

    private static void lookAt(NineLives x, int year, int left) {
        due("in how many years", x.look(0, 0), year);
        due("how many are left", x.look(0, 1), left);
    }

    private static void look() {
        DUE.about("promise 27");
        NineLives x = Due.under("shows 1;shows life if year = 3");
        due("no cat", x.look(0, 0), -1);
        x.cat(5);
        due("what 2", x.look(0, 2), -1);
        due("what -1", x.look(0, -1), -1);
        lookAt(x, 3, 1);
        x.terms(0, 3);
        lookAt(x, 0, 1);
        x.terms(0, 4);
        lookAt(x, 0, 9);
        x.seen(2);
        lookAt(x, -1, -1);
        NineLives few = Due.under("shows life % 2;shows life % 3 if year = 2");
        few.cat(1);
        lookAt(few, 2, 3);
        few.seen(0);
        lookAt(few, 2, 2);
        NineLives nine = Due.under("shows 1;shows life if year = 9");
        nine.cat(0);
        lookAt(nine, 9, 1);
        NineLives ten = Due.under("shows 1;shows life if year = 10");
        ten.cat(0);
        lookAt(ten, 0, 9);
        NineLives first = Due.under("shows life / 2;shows 0 if year = 0");
        first.cat(0);
        lookAt(first, 1, 2);
        Due.row(first, 2, 0, 9);
        first.die(1, 9);
        due("gone", first.look(1, 0), 1);
    }

    private static NineLives seeing(NineLives x, int... doings) {
        x.forget();
        for (int doing : doings) {
            x.seen(doing);
        }
        return x;
    }

    private static void explained() {
        DUE.about("promise 28");
        NineLives x = new NineLives();
        due("no cat", x.explained(0), -1);
        x.cat(3);
        x.cat(4);
        Due.row(x, 3, 1, 9);
        due("nothing seen", x.explained(0), 0);
        due("one", seeing(x, 3).explained(0), 1);
        due("alike", seeing(x, 3, 3, 3, 3).explained(0), 1);
        due("three", seeing(x, 3, 3, 5, 1).explained(0), 3);
        due("not the one it is at", x.explained(1), -1);
        due("two", seeing(x, 3, 5).explained(0), 2);
        due("nothing of the latest stays", seeing(x, 5).explained(0), -1);
        due("each once", seeing(x, 3, 5, 3).explained(0), -1);
        due("each once", seeing(x, 3, 5, 5, 1, 5).explained(0), -1);
        due("no such life", seeing(x, 3, 9).explained(0), -1);
        due("one it has yet", seeing(x, 3, 0).explained(2), 2);
        due("one it has not", seeing(x, 3, 1).explained(2), -1);
        due("eight", seeing(x, 3, 8, 2, 7, 0, 6, 1, 5).explained(0), 8);
        x.die(2, 0);
        due("at another life", seeing(x, 0).explained(2), 1);
        x.die(2, 9);
        due("gone", x.explained(2), -1);
        x.forget();
        due("gone, nothing seen", x.explained(2), -1);
    }

    private static void explainedByLaw() {
        DUE.about("promise 28, by laws");
        NineLives thirds = Due.under("shows life / 3");
        thirds.cat(0);
        due("one of some", seeing(thirds, 0, 0, 1, 1, 2).explained(0), 3);
        due("each of some", seeing(thirds, 0, 1, 0, 1, 0, 1).explained(0), 6);
        due("each once", seeing(thirds, 0, 1, 0, 1, 0, 1, 0, 1).explained(0), -1);
        NineLives spent = Due.under("shows spent");
        spent.cat(0);
        due("spent one more", seeing(spent, 0, 1, 2, 3).explained(0), 4);
        due("spent one more", seeing(spent, 0, 0, 1).explained(0), 2);
        due("not two more", seeing(spent, 0, 2).explained(0), -1);
        NineLives years = Due.under("shows [life + year] % 2");
        years.cat(0);
        due("years go on", seeing(years, 0, 1, 0, 1).explained(0), 1);
        due("years go on", seeing(years, 0, 0).explained(0), 2);
        due("years go on", seeing(years, 0, 0, 1, 1).explained(0), 3);
        years.terms(0, 7);
        due("from now", seeing(years, 0, 1).explained(0), -1);
        due("from now", seeing(years, 1, 0).explained(0), 1);
        NineLives fewest = Due.under("shows 1;shows 2 if year > 1 and life < 8;shows 3 if life = 8");
        fewest.cat(0);
        due("the fewest", seeing(fewest, 1, 1, 2, 2).explained(0), 1);
        due("the fewest", seeing(fewest, 1, 1, 2, 3).explained(0), 2);
    }

    private static void completing(NineLives x, int many, int which) {
        due("how many", x.complete(0, 0), many);
        due("which", x.complete(0, 1), which);
    }

    private static void complete() {
        DUE.about("promise 29");
        NineLives x = Due.under("bars if ship = 0 and ear = 0");
        due("no ship", x.complete(0, 0), -1);
        x.ship(0b1110);
        x.ship(0);
        completing(x, -1, -1);
        due("it needs none", x.complete(1, 0), 0);
        due("it needs none", x.complete(1, 1), 0);
        due("what 2", x.complete(0, 2), -1);
        due("what -1", x.complete(0, -1), -1);
        x.cat(1);
        x.cat(2);
        x.cat(3);
        x.cat(1);
        x.cat(8);
        completing(x, 3, 0b00111);
        due("what 2", x.complete(0, 2), -1);
        due("what -1", x.complete(0, -1), -1);
        x.sign(0, 1);
        completing(x, 3, 0b01110);
        x.undo();
        x.sign(3, 0);
        completing(x, 2, 0b00110);
        x.clip(1, 0);
        completing(x, -1, -1);
        x.cat(2);
        completing(x, 2, 0b100100);
        x.sign(2, 1);
        completing(x, -1, -1);
        x.sign(2, 0);
        completing(x, 1, 0b100000);
        x.sign(5, 0);
        completing(x, 0, 0);
        x.die(5, 7);
        completing(x, -1, -1);
        x.die(4, 2);
        completing(x, 1, 0b010000);
        NineLives gone = new NineLives();
        gone.ship(1);
        Due.row(gone, 0, 0, 9);
        completing(gone, 1, 1);
        gone.die(0, 9);
        completing(gone, -1, -1);
    }

    private static void safe() {
        DUE.about("promise 30");
        NineLives x = Due.under("dares life");
        due("no ship", x.safe(0), -1);
        x.ship(0);
        x.ship(0);
        due("nobody aboard", x.safe(0), 1_000_000_000_000L);
        for (int life = 3; life < 9; life++) {
            x.cat(life);
        }
        x.sign(0, 0);
        due("one", x.safe(0), 700_000_000_000L);
        x.sign(1, 0);
        x.sign(5, 0);
        due("three", x.safe(0), 84_000_000_000L);
        x.sign(2, 0);
        x.sign(3, 0);
        x.sign(4, 0);
        due("six", x.safe(0), 5_040_000_000L);
        due("the other", x.safe(1), 1_000_000_000_000L);
        x.force(-1);
        x.terms(1, 10);
        due("by drays", x.safe(0), 0);
        due("ship 2", x.safe(2), -1);
        due("ship -1", x.safe(-1), -1);
    }

    private static void passing() {
        DUE.about("promise 32");
        NineLives x = Due.under("shows life % 3");
        due("no cats", x.passing(-1), 0);
        for (int life : new int[] {0, 3, 1, 4, 6, 0}) {
            x.cat(life);
        }
        due("how many", x.passing(-1), 6);
        int[] twos = {1, 4, 14, 15, 23, 45};
        for (int i = 0; i < 6; i++) {
            due("passing(" + i + ")", x.passing(i), twos[i]);
        }
        due("passing(6)", x.passing(6), -1);
        due("passing(-2)", x.passing(-2), -1);
        x.force(-1);
        due("without the law", x.passing(-1), 0);
        NineLives gone = Due.under("shows 1");
        Due.row(gone, 1, 0, 9, 2, 0, 9, 3, 0, 9);
        due("how many", gone.passing(-1), 3);
        gone.die(1, 9);
        due("gone", gone.passing(-1), 1);
        due("gone", gone.passing(0), 2);
    }

    private static void passingInYears() {
        DUE.about("promise 32, in years");
        NineLives x = Due.under("shows 1;shows life if year = 9");
        x.cat(1);
        x.cat(2);
        due("year 9", x.passing(-1), 0);
        x.terms(0, 10);
        due("it is over", x.passing(-1), 1);
        x.terms(0, 9);
        due("now", x.passing(-1), 0);
        NineLives later = Due.under("shows 1;shows life if year = 10");
        later.cat(1);
        later.cat(2);
        due("year 10", later.passing(-1), 1);
        later.terms(0, 1);
        due("in nine years", later.passing(-1), 0);
        NineLives own = Due.under("shows ear - spent");
        own.cat(1);
        own.cat(2);
        own.clip(0, 4);
        own.clip(1, 5);
        due("by its own ear", own.passing(-1), 0);
        own.die(1, 8);
        due("and by its own spent", own.passing(-1), 1);
    }

    private static void rich() {
        DUE.about("promise 34");
        NineLives x = new NineLives();
        due("nobody", x.rich(-1), 0);
        x.cat(0);
        x.cat(8);
        Due.row(x, 4, 0, 9);
        Due.law(x, "earns 40 + cat");
        Due.law(x, "earns 1000;earns 2 if cat = 1");
        due("none", x.rich(-1), 15);
        due("law 0", x.rich(0), 123);
        due("law 1", x.rich(1), 99 + 2 + 99);
        due("law 2", x.rich(2), -1);
        due("law -2", x.rich(-2), -1);
        x.force(0);
        due("none in its place", x.rich(-1), 15);
        x.die(2, 9);
        due("gone", x.rich(0), 81);
        due("in force still", x.count(12), 0);
        due("in force still", x.of(0, 6), 40);
    }

    /** What is told on paper leaves all as it was. */
    private static void nothingChanges() {
        DUE.about("on paper");
        NineLives x = Due.under("earns 7;dares life;shows life / 2;bars if life = 0");
        x.cat(0);
        x.cat(1);
        x.ship(2);
        x.pass();
        x.sign(1, 0);
        x.seen(0);
        int before = 0;
        int after = 0;
        for (int what = 0; what < 17; what++) {
            before = before * 31 + x.count(what);
        }
        x.had(0, 9);
        x.next(0, 9);
        x.likely(0, 60);
        x.canBe(0);
        x.look(0, 0);
        x.explained(0);
        x.complete(0, 0);
        x.safe(0);
        x.passing(-1);
        x.rich(-1);
        x.years(1, 60);
        for (int what = 0; what < 17; what++) {
            after = after * 31 + x.count(what);
        }
        due("counts", after, before);
        due("life", x.of(1, 0), 1);
        due("earns", x.of(1, 6), 7);
        due("undo", x.undo(), 0);
        due("undo", x.undo(), 3);
    }
}
