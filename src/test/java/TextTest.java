/** Promises 7 to 15: the tape, rows, laws, orders, where they fault and stop, force. */
public final class TextTest {
    private static final Due DUE = new Due();

    private static void due(String call, long got, long want) {
        DUE.due(call, got, want);
    }

    public static void main(String[] args) {
        tape();
        rows();
        rowsOfMice();
        laws();
        faultsOfLaws();
        faultsAtLimits();
        numbersOfTexts();
        sums();
        tests();
        orders();
        ordersThatCantBe();
        faultsOfOrders();
        wordsOfOrders();
        stopped();
        faultIsOfTheLatestText();
        force();
        DUE.finish("TextTest");
    }

    private static void tape() {
        DUE.about("promises 7, 8");
        NineLives x = new NineLives();
        due("end(0) of an empty tape", x.end(0), 0);
        due("end(1) of an empty tape", x.end(1), -1);
        for (int bytes = 20; bytes <= 400; bytes += 20) {
            due("feed", x.feed(1, 2, 3, 4, 5), bytes);
        }
        due("feed beyond 400", x.feed(1, 2, 3, 4, 5), -1);
        due("bytes", x.count(6), 400);
        due("end(-1)", x.end(-1), -1);
        due("end(401)", x.end(401), -1);
        due("end(400)", x.end(400), 400);
        due("end(381)", x.end(381), 381);
        due("feed beyond 400", x.feed(1, 2, 3, 4, 5), -1);
        due("end(380)", x.end(380), 380);
        due("feed", x.feed(1, 2, 3, 4, 5), 400);
        due("end(7)", x.end(7), 7);
        due("end(8)", x.end(8), -1);
        due("bytes", x.count(6), 7);
        x.end(0);
        // the highest byte first: 4 2 9 | 8 0 0 | 255 ..
        x.feed(0x04020908, 0x0000ff00, 0, 0, 0);
        x.end(9);
        due("row", x.row(), 2);
        due("mice", x.mice(), 1);
        due("life", x.of(0, 0), 4);
        due("life", x.of(1, 0), 8);
    }

    private static void rows() {
        DUE.about("promise 9");
        NineLives x = new NineLives();
        due("an empty tape", x.row(), -6);
        due("row", Due.row(x, 0, 3, 9, 2, 8, 0, 8, 0, 8), 3);
        due("bytes", x.count(6), 0);
        int[][] due = {{0, 0b1110, 9, 0, -1, 5}, {2, 0b111111011, 0, 0, -1, 0}, {8, 0, 8, 0, -1, 8}};
        for (int cat = 0; cat < 3; cat++) {
            for (int what = 0; what < 6; what++) {
                due("of(" + cat + ", " + what + ")", x.of(cat, what), due[cat][what]);
            }
        }
        due("row", Due.row(x, 1, 2, 9), 1);
        due("the lowest others", x.of(3, 1), 0b101);
        due("status", x.status(), 0);
    }

    private static void rowsOfMice() {
        DUE.about("promises 9, 10");
        NineLives x = new NineLives();
        due("mice ahead of any", x.mice(), 0);
        due("row", Due.row(x, 9, 0, 0, 0, 9, 0, 0, 0, 10, 255, 255, 255, 128, 0, 0, 5, 5, 5, 1, 1), 1);
        due("mice", x.mice(), 6);
        due("cats", x.count(0), 1);
        due("row", Due.row(x, 3), 0);
        due("mice", x.mice(), 1);
        x.row();
        due("mice behind a refused one", x.mice(), 1);
        due("row", Due.row(x, 0, 0, 0, 1, 0, 0, 2, 0, 0, 3, 0, 0, 4, 0, 0, 5, 0, 0, 6, 0, 0, 7), 5);
        due("mice without room", x.mice(), 3);
        due("cats", x.count(0), 6);
        due("row", Due.row(x, 1, 1, 1), 0);
        due("mice", x.mice(), 1);
        due("not refused", x.status(), 0);
    }

    private static void laws() {
        DUE.about("promise 11");
        NineLives x = new NineLives();
        due("an empty tape", x.law(), -6);
        due("fault", x.fault(), 0);
        due("blanks alone", Due.law(x, "     "), -6);
        due("fault", x.fault(), 5);
        for (int law = 0; law < 6; law++) {
            due("law", Due.law(x, "earns " + (10 + law)), law);
            due("bytes", x.count(6), 0);
            due("fault", x.fault(), -1);
        }
        Due.law(x, "bars");
        due("a seventh", x.status(), -5);
        Due.put(x, "what is this");
        due("ahead of reading it", x.law(), -5);
        due("bytes", x.count(6), 0);
        due("fault is as it was", x.fault(), -1);
        x.cat(0);
        for (int law = 0; law < 6; law++) {
            due("rich", x.rich(law), 10 + law);
        }
    }

    private static void lawFaultsAt(String text, int place) {
        due("fault of \"" + text + "\"", Due.faultOfLaw(text), place);
    }

    private static void ordersFaultAt(String text, int place) {
        due("fault of \"" + text + "\"", Due.faultOfOrders(text), place);
    }

    private static void faultsOfLaws() {
        DUE.about("promises 11, 13");
        lawFaultsAt("earns 1", -1);
        lawFaultsAt("  earns1;bars;dares[1]if(life=1)  ", -1);
        lawFaultsAt("bars ;", 6);
        lawFaultsAt("bars ;  ", 8);
        lawFaultsAt(";bars", 0);
        lawFaultsAt("bars;;bars", 5);
        lawFaultsAt("bars bars", 5);
        lawFaultsAt("bars 1", 5);
        lawFaultsAt("  earn 1", 2);
        lawFaultsAt("earnslife", 0);
        lawFaultsAt("Earns 1", 0);
        lawFaultsAt("earns", 5);
        lawFaultsAt("earns   ", 8);
        lawFaultsAt("earns if", 6);
        lawFaultsAt("earns -1", 6);
        lawFaultsAt("earns 1 2", 8);
        lawFaultsAt("earns 1 +", 9);
        lawFaultsAt("earns 1 + + 2", 10);
        lawFaultsAt("earns (1)", 6);
        lawFaultsAt("earns [1", 8);
        lawFaultsAt("earns [1)", 8);
        lawFaultsAt("earns []", 7);
        lawFaultsAt("earns 1 < 2", 8);
        lawFaultsAt("earns 1 or 2", 8);
        lawFaultsAt("earns alive", 6);
        lawFaultsAt("earns done", 6);
        lawFaultsAt("earns life 1", 11);
        lawFaultsAt("earns 1 times 2", 8);
        lawFaultsAt("earns 1.5", 7);
        lawFaultsAt("earns 1\t", 7);
        lawFaultsAt("earns " + (char) 233, 6);
        lawFaultsAt("earns 1" + (char) 0, 7);
        lawFaultsAt("bars if", 7);
        lawFaultsAt("bars if life", 12);
        lawFaultsAt("bars if life =", 14);
        lawFaultsAt("bars if life = 1 = 1", 17);
        lawFaultsAt("bars if life < = 1", 15);
        lawFaultsAt("bars if not", 11);
        lawFaultsAt("bars if not not not life = 1", -1);
        lawFaultsAt("bars if notnot life = 1", 8);
        lawFaultsAt("bars if life = 1 not", 17);
        lawFaultsAt("bars if (life = 1", 17);
        lawFaultsAt("bars if (life = 1]", 17);
        lawFaultsAt("bars if (life) = 1", 13);
        lawFaultsAt("bars if [life] = 1", -1);
        lawFaultsAt("bars if [life = 1]", 14);
        lawFaultsAt("bars if ((life = 1) or not (ear = 2) and gold > 3)", -1);
        lawFaultsAt("bars if (life = 1) + 1", 19);
        lawFaultsAt("bars if life = 1 and", 20);
        lawFaultsAt("bars if life = 1 or and", 20);
        lawFaultsAt("bars if life = 1 if", 17);
        lawFaultsAt("bars if life = 1 ; if", 19);
        lawFaultsAt("sign 0 on 0", 0);
        lawFaultsAt("earns latestlatest", 6);
        lawFaultsAt("earns spents", 6);
        lawFaultsAt("earns spen", 6);
        lawFaultsAt("earnsz 1", 0);
        lawFaultsAt("earns 1 *", 9);
        lawFaultsAt("earns 1 /;bars", 9);
        lawFaultsAt("earns 1 % if 1 = 1", 10);
    }

    private static String repeated(String text, int times) {
        return text.repeat(times);
    }

    private static void faultsAtLimits() {
        DUE.about("promises 11, 13, limits");
        lawFaultsAt(repeated("bars;", 11) + "bars", -1);
        lawFaultsAt(repeated("bars;", 12) + "bars", 60);
        lawFaultsAt(repeated("bars;", 12) + "  !", 62);
        lawFaultsAt(repeated("bars;", 12), 60);
        lawFaultsAt(repeated("bars;", 12) + "   ", 63);
        lawFaultsAt(repeated("bars;", 11) + "bars !", 60);
        ordersFaultAt(repeated("pass;", 12) + "pass", 60);
        lawFaultsAt("earns 1" + repeated("+1", 49), -1);
        lawFaultsAt("earns 1" + repeated("+1", 50), 6 + 100);
        lawFaultsAt("earns 1" + repeated("+life", 49) + ";bars", -1);
        lawFaultsAt("earns 1" + repeated("+life", 49) + ";bars if [cat", 7 + 245 + 10);
        lawFaultsAt("earns 1" + repeated("+1", 49) + "+", 6 + 100);
        ordersFaultAt("clip " + repeated("life 0+", 24) + "life 0 as " + repeated("1-", 24) + "1 times 2", -1);
        ordersFaultAt("clip " + repeated("life 0+", 24) + "life 0 as " + repeated("1-", 24) + "1 times 2 if crew 0 = 1",
                5 + 168 + 10 + 49 + 12);
        lawFaultsAt("earns " + repeated("[", 8) + "1" + repeated("]", 8), -1);
        lawFaultsAt("earns " + repeated("[", 9) + "1" + repeated("]", 9), 14);
        lawFaultsAt("earns " + repeated("[1]+", 20) + "[1]", -1);
        lawFaultsAt("bars if " + repeated("(", 4) + repeated("[", 4) + "1" + repeated("]", 4) + "=1" + repeated(")", 4), -1);
        lawFaultsAt("bars if " + repeated("(", 4) + repeated("[", 5) + "1" + repeated("]", 5) + "=1" + repeated(")", 4), 16);
        lawFaultsAt("bars if " + repeated("not(", 8) + "1=1" + repeated(")", 8), -1);
        lawFaultsAt("bars if " + repeated("not(", 9) + "1=1" + repeated(")", 9), 8 + 35);
        ordersFaultAt("clip " + repeated("[", 8) + "0" + repeated("]", 8) + " as " + repeated("[", 8) + "1" + repeated("]", 8), -1);
        ordersFaultAt("clip " + repeated("[", 9) + "0" + repeated("]", 9) + " as 1", 13);
        ordersFaultAt("clip 0 as " + repeated("[", 9) + "1" + repeated("]", 9), 18);
        lawFaultsAt("bars if " + repeated("not ", 97) + "1=1 ", -1);
        lawFaultsAt(repeated(" ", 393) + "earns 7", -1);
        lawFaultsAt(repeated("(", 400), 0);
    }

    private static void numbersOfTexts() {
        DUE.about("promises 11, 13, numbers");
        lawFaultsAt("dares 1000", -1);
        lawFaultsAt("dares 1001", 6);
        lawFaultsAt("dares 0001000", -1);
        lawFaultsAt("dares 10000000000000000000000001", 6);
        lawFaultsAt("dares 4294967297", 6);
        lawFaultsAt("dares 1 000", 8);
        ordersFaultAt("pass times 1", -1);
        ordersFaultAt("pass times 20", -1);
        ordersFaultAt("pass times 21", 11);
        ordersFaultAt("pass times 0", 11);
        ordersFaultAt("pass times year", 11);
        ordersFaultAt("pass times", 10);
        ordersFaultAt("pass if life 5 = 0", -1);
        ordersFaultAt("pass if life 6 = 0", 13);
        ordersFaultAt("pass if gold 6 = 0", 13);
        ordersFaultAt("pass if crew 2 = 0", -1);
        ordersFaultAt("pass if crew 3 = 0", 13);
        ordersFaultAt("pass if life = 0", 13);
        ordersFaultAt("pass if gold", 12);
    }

    /** What a cat of life 5 in its first life earns by a sum; 6, if that is broken. */
    private static int told(String sum) {
        NineLives x = Due.under("earns " + sum);
        x.cat(5);
        return x.of(0, 6);
    }

    private static void sums() {
        DUE.about("promise 11, sums");
        due("2+3*4", told("2+3*4"), 14);
        due("[2+3]*4", told("[2+3]*4"), 20);
        due("20-3-4", told("20-3-4"), 13);
        due("20-[3-4]", told("20-[3-4]"), 21);
        due("100/7/2", told("100/7/2"), 7);
        due("7*9%10", told("7*9%10"), 3);
        due("2*3+4*5-6/4", told("2*3+4*5-6/4"), 25);
        due("cut towards 0", told("50+[0-7]/2"), 47);
        due("what is left then", told("50+[0-7]%4"), 47);
        due("what is left then", told("50+7%[0-4]"), 53);
        due("divided by 0", told("7/[life-5]"), 6);
        due("left by 0", told("7%[life-5]"), 6);
        due("1,000,000,000", told("1000*1000*1000/1000/1000/20"), 50);
        due("beyond it", told("[1000*1000*1000+1]/1000/1000/20"), 6);
        due("beyond it on the way", told("1000*1000*1000*2/1000/1000/100"), 6);
        due("-1,000,000,000", told("[0-1000*1000*1000]/1000/1000/[0-20]"), 50);
        due("below it", told("[0-1000*1000*1000-1]/1000/1000/[0-20]"), 6);
        due("far beyond", told("1000*1000*1000*1000*1000*1000*1000"), 6);
        due("many parts", told("1" + repeated("+1", 49)), 50);
        due("many brackets", told("[[[[[[[[7]]]]]]]]"), 7);
        due("right brackets", told("1+[1+[1+[1+[1+[1+[1+[1+1]]]]]]]"), 9);
    }

    /** Whether a test is so of a cat of life 5: 1, if so; 0, if not so or broken. */
    private static int so(String test) {
        NineLives x = Due.under("earns 0;earns 1 if " + test);
        x.cat(5);
        return x.of(0, 6);
    }

    private static void tests() {
        DUE.about("promise 11, tests");
        String yes = "life=5";
        String no = "life<5";
        String broken = "1/0=1";
        due("yes", so(yes), 1);
        due("no", so(no), 0);
        due("more", so("life>4"), 1);
        due("more", so("life>5"), 0);
        due("broken", so(broken), 0);
        due("not yes", so("not " + yes), 0);
        due("not no", so("not " + no), 1);
        due("not not yes", so("not not " + yes), 1);
        due("not broken", so("not " + broken), 0);
        due("yes or broken", so(yes + " or " + broken), 1);
        due("no or broken", so(no + " or " + broken), 0);
        due("broken or yes", so(broken + " or " + yes), 0);
        due("no and broken", so("not (" + no + " and " + broken + ")"), 1);
        due("yes and broken", so("not (" + yes + " and " + broken + ")"), 0);
        due("broken and no", so("not (" + broken + " and " + no + ")"), 0);
        due("and binds first", so(yes + " or " + yes + " and " + no), 1);
        due("and binds first", so(no + " and " + no + " or " + yes), 1);
        due("brackets", so("(" + yes + " or " + yes + ") and " + no), 0);
        due("not binds first", so("not " + no + " or " + broken), 1);
        due("not of brackets", so("not (" + no + " or " + no + ")"), 1);
        due("no or no or yes", so(no + " or " + no + " or " + yes), 1);
        due("yes or no or broken", so(yes + " or " + no + " or " + broken), 1);
        due("no and broken or yes", so(no + " and " + broken + " or " + yes), 1);
        due("yes and yes and no", so(yes + " and " + yes + " and " + no), 0);
        due("no and broken and broken", so("not (" + no + " and " + broken + " and " + broken + ")"), 1);
        due("no or yes and yes or broken", so(no + " or " + yes + " and " + yes + " or " + broken), 1);
        due("no or yes and no or broken", so("not (" + no + " or " + yes + " and " + no + " or " + broken + ")"), 0);
        due("the last that holds", told("9;earns 8 if 1=1;earns 7 if 1=2;earns 6/0"), 8);
        due("the last that holds", told("9;earns 8 if 1/0=1;dares 3"), 9);
        due("the twelfth", told("9;" + repeated("bars;", 10) + "earns 8 if life = 5"), 8);
        due("the twelfth", told("9;" + repeated("bars;", 10) + "earns 8 if life = 4"), 9);
        due("not (not yes)", so("not (not (" + yes + "))"), 1);
        due("not (not no)", so("not (not (" + no + "))"), 0);
    }

    private static void orders() {
        DUE.about("promise 12");
        NineLives x = new NineLives();
        due("an empty tape", x.orders(), -6);
        due("blanks alone", Due.orders(x, "  "), -6);
        due("fault", x.fault(), 2);
        x.cat(0);
        x.cat(5);
        x.ship(0);
        due("sign", Due.orders(x, "sign 1 on 0"), 1);
        due("bytes", x.count(6), 0);
        due("ship", x.of(1, 4), 0);
        due("die", Due.orders(x, "die 1 as 3;die 1 as 4;die 0 as 1 + 1"), 3);
        due("life", x.of(1, 0), 4);
        due("life", x.of(0, 0), 2);
        due("clip", Due.orders(x, "clip 0 as 7 times 2 if done = 0"), 1);
        due("ear", x.of(0, 2), 7);
        due("pass", Due.orders(x, "pass times 20;pass times 3 if year < 22"), 22);
        due("year", x.count(13), 22);
        due("none is run", Due.orders(x, "die 0 as 0 if 1 = 2"), 0);
        due("not run if broken", Due.orders(x, "die 0 as 0 if 1 / 0 = 0;pass"), 1);
        due("not asked if not so", Due.orders(x, "die 1/0 as 1/0 if 1 = 2"), 0);
        due("fault", x.fault(), -1);
        Due.row(x, 6, 0, 9);
        due("9: none", Due.orders(x, "die 2 as 9"), 1);
        due("gone", x.of(2, 0), -1);
        due("status", x.status(), 0);
    }

    private static void ordersThatCantBe() {
        DUE.about("promise 12, that can't be");
        NineLives x = Due.under("bars if ship = 1");
        x.cat(0);
        x.ship(0);
        x.ship(0);
        x.clip(0, 4);
        String[] bad = {"sign 6 on 0", "sign 0 on 2", "sign 0 on 1", "sign 0 on 0 - 1", "sign 0 on 0 times 2", "die 0 as 0",
            "die 0 as 9", "die 0 as 10", "die 1 as 1", "die 0 as 0 - 1", "clip 0 as 4", "clip 0 as 9", "clip 3 as 1",
            "clip 0 - 1 as 1", "clip 1/0 as 3", "clip 0 as 1%0", "clip 1000*1000*1000*1000 as 1", "pass;clip 1000*1000*1000 as 1"};
        for (String order : bad) {
            due(order, Due.orders(x, "pass;die 0 as 5;" + order), -3);
            due("status", x.status(), -3);
            due("year", x.count(13), 0);
            due("gold", x.count(16), 0);
            due("life", x.of(0, 0), 0);
            due("ship", x.of(0, 4), -1);
            due("ear", x.of(0, 2), 4);
            due("can be undone", x.count(5), 1);
            due("bytes", x.count(6), 0);
        }
        due("refused once each", x.count(9), bad.length);
        due("not by others", x.count(7) + x.count(8), 0);
        x.terms(0, 998);
        due("pass at 999", Due.orders(x, "pass times 2"), -3);
        due("year", x.count(13), 998);
        due("once", Due.orders(x, "pass times 2 if year < 999"), 1);
    }

    private static void faultsOfOrders() {
        DUE.about("promises 12, 13");
        ordersFaultAt("earns 1", 0);
        ordersFaultAt("sign", 4);
        ordersFaultAt("die", 3);
        ordersFaultAt("clip  ", 6);
        ordersFaultAt("sign 1", 6);
        ordersFaultAt("pass if dlatest = 0", 8);
        ordersFaultAt("sign 1 as 2", 7);
        ordersFaultAt("sign on 2", 5);
        ordersFaultAt("die 1 on 2", 6);
        ordersFaultAt("clip 1 on 2", 7);
        ordersFaultAt("die 1 as", 8);
        ordersFaultAt("die 1 as 2 as 3", 11);
        ordersFaultAt("pass 1", 5);
        ordersFaultAt("pass if 1 = 1 times 2", 14);
        ordersFaultAt("pass times 2 times 2", 13);
        ordersFaultAt("pass times 2 + 1", 13);
        ordersFaultAt("pass times 2 if 1 = 1", -1);
        ordersFaultAt("pass;", 5);
        ordersFaultAt("pass if spent = 1", 8);
        ordersFaultAt("pass if ear = 1", 8);
        ordersFaultAt("pass if cat = 1", 8);
        ordersFaultAt("pass if ship = 1", 8);
        ordersFaultAt("pass if mood = 1", 8);
        ordersFaultAt("pass if year 1 = 1", 13);
        ordersFaultAt("pass if alive = latest and done = year or crew2=gold5", -1);
        ordersFaultAt("die life 0 as [gold 1 + 2] % 9 times 3 if not (crew 0 > 1)", -1);
        NineLives x = new NineLives();
        x.cat(0);
        due("nothing is run", Due.orders(x, "pass;pass;pas"), -6);
        due("year", x.count(13), 0);
        due("status", x.status(), -6);
    }

    private static void wordsOfOrders() {
        DUE.about("promise 12, words");
        NineLives x = new NineLives();
        x.cat(3);
        Due.row(x, 5, 1, 9, 4, 0, 9);
        x.ship(0);
        x.ship(0);
        x.sign(0, 1);
        x.sign(1, 1);
        x.terms(0, 40);
        x.pass();
        x.die(2, 9);
        String standing = "year=41 and done=0 and latest=0-1 and alive=2 and life 0=3 and life 2=0-1 and life 3=0-1";
        due("words", Due.orders(x, "pass if " + standing), 1);
        due("words", Due.orders(x, "pass if gold 0=8 and gold 2=5 and gold 3=0-1 and crew 0=0 and crew 1=2 and crew 2=0-1"), 1);
        due("latest, alive", Due.orders(x, "die 1 as 0;clip 0 as 1 if latest = 0 and alive = 2;die 1 as 9;"
                + "clip 0 as 2 if latest = 0 and alive = 1 and done = 3 and crew 1 = 1;die 0 as 8;clip 0 as 3 if latest = 7"), 6);
        due("ear", x.of(0, 2), 3);
        due("latest is of this text", Due.orders(x, "clip 0 as 5 if latest = 0 - 1 and done = 0"), 1);
        x.cat(0);
        x.cat(1);
        x.cat(2);
        x.sign(4, 0);
        x.pass();
        due("each of them", Due.orders(x, "pass if life 3=0 and life 4=1 and life 5=2 and gold 3=1 and gold 4=2 and gold 5=3"
                + " and crew 0=1 and crew 1=1 and crew 2=0-1"), 1);
        due("sums from the left", Due.orders(x, "clip life 0 - 8 as done + 6;clip 0 as done + 6"), 2);
        due("ear", x.of(0, 2), 7);
    }

    private static void stopped() {
        DUE.about("promise 14");
        NineLives x = new NineLives();
        x.cat(0);
        due("orders", Due.orders(x, "pass;pass;pass;clip 0 as 9"), -3);
        due("stopped", x.stopped(), 3);
        due("orders", Due.orders(x, "die 0 as 1 times 2;pass"), -3);
        due("stopped", x.stopped(), 0);
        due("fault", x.fault(), -1);
        x.law();
        due("behind law()", x.stopped(), 0);
        x.image(0);
        due("orders", Due.orders(x, "pass;clip 0 as 9"), -3);
        x.back(0);
        due("images don't keep it", x.stopped(), 1);
        x.orders();
        due("refused by -6", x.stopped(), -1);
        Due.orders(x, "die 1 as 1");
        due("stopped", x.stopped(), 0);
        due("orders", Due.orders(x, "pass"), 1);
        due("that was done", x.stopped(), -1);
    }

    private static void faultIsOfTheLatestText() {
        DUE.about("promise 13");
        NineLives x = new NineLives();
        Due.law(x, "bars bars");
        due("of a law", x.fault(), 5);
        Due.orders(x, "pass");
        due("of orders", x.fault(), -1);
        Due.orders(x, "pass pass pass");
        due("of orders", x.fault(), 5);
        x.image(0);
        Due.row(x, 1, 2, 3);
        due("behind row()", x.fault(), 5);
        Due.orders(x, "clip 0 as 9");
        due("that can't be", x.fault(), -1);
        x.back(0);
        due("images don't keep it", x.fault(), -1);
    }

    private static void force() {
        DUE.about("promise 15");
        NineLives x = new NineLives();
        due("no law", x.force(0), -2);
        due("none", x.force(-1), -1);
        Due.law(x, "earns 50");
        Due.law(x, "earns 60");
        x.cat(0);
        due("not in force yet", x.of(0, 6), 1);
        due("force", x.force(1), -1);
        due("earns", x.of(0, 6), 60);
        due("force", x.force(0), 1);
        due("earns", x.of(0, 6), 50);
        due("no law", x.force(2), -2);
        due("no law", x.force(-2), -2);
        due("still", x.count(12), 0);
        due("none", x.force(-1), 0);
        due("earns", x.of(0, 6), 1);
    }
}
