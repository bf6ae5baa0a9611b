import java.util.ArrayList;
import java.util.List;

/** Texts of both languages: the tape, tokens, grammar, limits, faults, what is broken. */
final class EdgesOfTermsII {
    private static final String HERE = "Terms II";
    private static final String EVERY_WORD = "or and not if times on as earns dares shows bars sign die clip pass cat life spent ear gold "
            + "ship year mood done latest alive crew";

    static void tell(Edges edges) {
        tape(edges);
        tokens(edges);
        clauses(edges);
        tests(edges);
        plains(edges);
        sums(edges);
        parts(edges);
        limits(edges);
        faults(edges);
        wordsAtWrongPlaces(edges);
        broken(edges);
        askedOnlyIfItMatters(edges);
    }

    private static String[] all(List<String> runs) {
        return runs.toArray(new String[0]);
    }

    private static String lawFaults(String text, int place) {
        return Edges.lawFaults(text, place);
    }

    private static String ordersFault(String text, int place) {
        return Edges.ordersFault(text, place);
    }

    private static void tape(Edges edges) {
        edges.edge(HERE + ", promises 7, 11, 12", "II. TEXTS are on a TAPE of at most 400 bytes.", """
                count(6) = 0
                19 x feed(1, 2, 3, 4, 5) = 380
                feed(1, 2, 3, 4, 5) = 400
                feed(1, 2, 3, 4, 5) none
                count(6) = 400
                end(381) = 381
                feed(1, 2, 3, 4, 5) none
                end(380) = 380
                feed(1, 2, 3, 4, 5) = 400
                """, Edges.lawIsGood(" ".repeat(396) + "bars"), Edges.lawIsGood("bars" + " ".repeat(396)),
                lawFaults(" ".repeat(399) + "!", 399), lawFaults("earns" + " ".repeat(395), 400),
                lawFaults("bars;".repeat(80), 60), lawFaults("[".repeat(400), 0), lawFaults("a".repeat(400), 0),
                lawFaults("earns " + "9".repeat(394), 6), Edges.lawIsGood("earns " + "0".repeat(394)),
                ordersFault("pass if " + "not ".repeat(98), 400), Edges.ordersAreGood("pass if " + "not ".repeat(97) + "1=1"));
    }

    private static void tokens(Edges edges) {
        List<String> runs = new ArrayList<>();
        for (int sign : new int[] {0, 1, 9, 10, 13, 31, 33, 36, 44, 46, 58, 64, 65, 90, 92, 94, 95, 96, 123, 127, 128, 160, 255}) {
            char other = (char) sign;
            // alone among letters, among digits, between blanks: a token of its own that no text has
            runs.add(lawFaults("earns" + other + "1", 5));
            runs.add(lawFaults("earns 1" + other + "1", 7));
            runs.add(lawFaults("bars " + other, 5));
            runs.add(ordersFault(other + "pass", 0));
        }
        edges.edge(HERE + ", promises 11, 12, 13",
                "TOKENS: longest rows of letters a .. z, of digits, single other bytes, any blanks (32) between.", all(runs));
        edges.edge(HERE + ", promises 11, 12, 13",
                "TOKENS: longest rows of letters a .. z, of digits, single other bytes, any blanks (32) between.",
                lawFaults("earnsa 1", 0), lawFaults("earnsz 1", 0), lawFaults("aearns 1", 0), lawFaults("zearns 1", 0),
                lawFaults("earn s 1", 0), lawFaults("earn", 0), lawFaults("Earns 1", 0), lawFaults("EARNS 1", 0),
                lawFaults("bars iff 1=1", 5), lawFaults("bars i f 1=1", 5), lawFaults("bars if 1=1 orr 1=1", 12),
                lawFaults("earns 1 2", 8), lawFaults("bars if 1==1", 10), lawFaults("bars;;bars", 5), lawFaults("bars if 1<=1", 10),
                Edges.lawIsGood("earns1if1=1or2<3and not(4>5)"), Edges.lawIsGood("   earns   1   if   1   =   1   ;   bars   "),
                Edges.earns("12", 12), Edges.earns("0", 0), Edges.earns("9", 9), Edges.earns("10/5", 2), Edges.earns("5if5=5", 5),
                Edges.earns("    7    ", 7),
                Edges.ordersAreGood("clip0as1times2if life0=3and crew2=gold5"), ordersFault("pass times 2 0", 13),
                ordersFault("passtimes 2", 0),
                // longer rows than any word, with a word at either end
                ordersFault("pass if dlatest=0", 8), ordersFault("pass if latestd=0", 8), ordersFault("pass if latestlatest=0", 8),
                ordersFault("pass if aaaalatest=0", 8), lawFaults("earns dddddlife", 6),
                lawFaults("h" + "a".repeat(31) + "earns 1", 0), ordersFault("pass if life5=0 and life 0 5=0", 27));
    }

    private static void clauses(Edges edges) {
        edges.edge(HERE + ", promises 11, 12, 13",
                "Of both languages: CLAUSE {\";\" CLAUSE}, 12 at most (FAULT at the 13th's first TOKEN).",
                Edges.lawIsGood("bars"), Edges.lawIsGood("bars;bars"), Edges.lawIsGood("bars;".repeat(11) + "bars"),
                lawFaults("bars;".repeat(12) + "bars", 60), lawFaults("bars;".repeat(12) + "  bars", 62),
                lawFaults("bars;".repeat(12) + "what", 60), lawFaults("bars;".repeat(12), 60),
                lawFaults("bars;".repeat(12) + "  ", 62),
                lawFaults("bars;".repeat(11) + "bars bars", 60), lawFaults("bars;".repeat(11) + "what", 55),
                lawFaults(";", 0), lawFaults("bars;", 5), lawFaults(";bars", 0), lawFaults("bars;;bars", 5),
                lawFaults("bars bars", 5),
                Edges.ordersAreGood("pass;".repeat(11) + "pass"), ordersFault("pass;".repeat(12) + "pass", 60),
                ordersFault("pass;".repeat(12), 60), ordersFault("pass;", 5), ordersFault(";", 0), ordersFault("pass,pass", 4),
                "orders '" + "pass;".repeat(11) + "pass' = 12\n count(13) = 12",
                "orders '" + "pass;".repeat(12) + "pass' refused -6\n count(13) = 0",
                Edges.earns("1;" + "bars;".repeat(10) + "earns 7", 7));
    }

    private static void tests(Edges edges) {
        edges.edge(HERE + ", promises 11, 12, 13", "TEST: BOTH {\"or\" BOTH}. BOTH: PLAIN {\"and\" PLAIN}.",
                Edges.isSo("1=1 or 1=1 and 1=2"), Edges.isSo("1=2 and 1=2 or 1=1"), Edges.isNotSo("(1=1 or 1=1) and 1=2"),
                Edges.isNotSo("1=2 and (1=2 or 1=1)"), Edges.isSo("1=2 or 1=2 or 1=1"), Edges.isNotSo("1=2 or 1=2 or 1=2"),
                Edges.isSo("1=1 and 1=1 and 1=1"), Edges.isNotSo("1=1 and 1=1 and 1=2"), Edges.isSo("1=2 or 1=1 and 1=1"),
                Edges.isSo("1=1 and 1=2 or 1=1 and 1=1"),
                lawFaults("bars if", 7), lawFaults("bars if or 1=1", 8), lawFaults("bars if and 1=1", 8),
                lawFaults("bars if 1=1 or", 14),
                lawFaults("bars if 1=1 and", 15), lawFaults("bars if 1=1 or or 1=1", 15), lawFaults("bars if 1=1 and and 1=1", 16),
                lawFaults("bars if 1=1 or and 1=1", 15), lawFaults("bars if 1=1 1=1", 12), lawFaults("bars if 1=1 not 1=1", 12),
                lawFaults("bars if 1=1 if 1=1", 12), ordersFault("pass if 1=1 or", 14), ordersFault("pass if 1=1 and ;pass", 16));
    }

    private static void plains(Edges edges) {
        edges.edge(HERE + ", promises 11, 12, 13", "PLAIN: \"not\" PLAIN | \"(\" TEST \")\" | SUM (\"<\" | \">\" | \"=\") SUM.",
                Edges.isSo("life < 6"), Edges.isNotSo("life < 5"), Edges.isNotSo("life < 4"), Edges.isSo("life > 4"),
                Edges.isNotSo("life > 5"), Edges.isNotSo("life > 6"), Edges.isSo("life = 5"), Edges.isNotSo("life = 4"),
                Edges.isNotSo("life = 6"), Edges.isSo("0 - 1 < 0"), Edges.isSo("not 1 = 2"), Edges.isNotSo("not 1 = 1"),
                Edges.isSo("not not 1 = 1"), Edges.isSo("not not not 1 = 2"), Edges.isSo("not (1 = 2)"), Edges.isSo("((1 = 1))"),
                // "not" is of the PLAIN behind it alone
                Edges.isSo("not 1 = 2 or 1 = 1"), Edges.isNotSo("not 1 = 1 and 1 = 2"), Edges.isNotSo("not (1 = 2 or 1 = 1)"),
                lawFaults("bars if not", 11), lawFaults("bars if not or", 12), lawFaults("bars if ()", 9),
                lawFaults("bars if (", 9),
                lawFaults("bars if (1=1", 12), lawFaults("bars if 1=1)", 11), lawFaults("bars if (1=1]", 12),
                lawFaults("bars if (1)=1", 10),
                lawFaults("bars if (1=1)=1", 13), lawFaults("bars if 1", 9), lawFaults("bars if 1 and 1=1", 10),
                lawFaults("bars if 1=", 10),
                lawFaults("bars if =1", 8), lawFaults("bars if 1=1=1", 11), lawFaults("bars if 1<1>1", 11),
                lawFaults("bars if 1 not 1", 10),
                lawFaults("bars if [1=1]", 10), lawFaults("bars if 1=(1)", 10), lawFaults("bars not 1=1", 5),
                ordersFault("pass if (1=1", 12), ordersFault("pass if not", 11), ordersFault("pass if 1", 9));
    }

    private static void sums(Edges edges) {
        edges.edge(HERE + ", promises 11, 12, 13", "SUM: TERM {(\"+\" | \"-\") TERM}. TERM: PART {(\"*\" | \"/\" | \"%\") PART}.",
                Edges.earns("2+3*4", 14), Edges.earns("2*3+4", 10), Edges.earns("[2+3]*4", 20), Edges.earns("20-3-4", 13),
                Edges.earns("20-3+4", 21), Edges.earns("20-[3-4]", 21), Edges.earns("100/7/2", 7), Edges.earns("100/[7/2]", 33),
                Edges.earns("7*9%10", 3), Edges.earns("100%30/3", 3), Edges.earns("100/30*3", 9), Edges.earns("20-2*3-1", 13),
                lawFaults("earns", 5), lawFaults("earns +1", 6), lawFaults("earns -1", 6), lawFaults("earns 1+", 8),
                lawFaults("earns 1-", 8),
                lawFaults("earns 1++1", 8), lawFaults("earns 1--1", 8), lawFaults("earns 1+-1", 8), lawFaults("earns *1", 6),
                lawFaults("earns /1", 6), lawFaults("earns %1", 6), lawFaults("earns 1*", 8), lawFaults("earns 1/", 8),
                lawFaults("earns 1%", 8),
                lawFaults("earns 1**1", 8), lawFaults("earns 1*/1", 8), lawFaults("earns 1+*1", 8), lawFaults("earns 1^1", 7),
                ordersFault("clip 0+ as 1", 8), ordersFault("clip 0 as *", 10));
    }

    private static void parts(Edges edges) {
        edges.edge(HERE + ", promises 11, 12, 13", "PART: NUMBER (to 1,000) | \"[\" SUM \"]\" | a word, as told.",
                Edges.earns("0", 0), Edges.earns("999/10", 99), Edges.earns("1000/20", 50), lawFaults("earns 1001", 6),
                lawFaults("earns 9999999999", 6), lawFaults("earns 4294967297", 6), lawFaults("earns 18446744073709551617", 6),
                lawFaults("earns 1+1001", 8), lawFaults("bars if 1001=1", 8), ordersFault("clip 1001 as 1", 5),
                ordersFault("pass if 1=1001", 10), Edges.ordersAreGood("pass if 1000=1"),
                Edges.earns("[7]", 7), Edges.earns("[[7]]", 7), lawFaults("earns []", 7), lawFaults("earns [", 7),
                lawFaults("earns [1", 8),
                lawFaults("earns 1]", 7), lawFaults("earns [1)", 8), lawFaults("earns (1)", 6), lawFaults("earns [1]]", 9),
                Edges.earns("life", 5), lawFaults("earns lif", 6), lawFaults("earns lives", 6), lawFaults("earns if", 6),
                lawFaults("earns earns", 6), lawFaults("earns or", 6), lawFaults("earns life life", 11),
                lawFaults("earns life 1", 11));
    }

    private static void limits(Edges edges) {
        String fifty = "1" + "+1".repeat(49);
        edges.edge(HERE + ", promises 11, 12, 13", "50 PARTS that are NUMBERS and words (FAULT at the 51st),",
                Edges.lawIsGood("earns " + fifty), Edges.earns(fifty, 50), lawFaults("earns " + fifty + "+1", 6 + 100),
                lawFaults("earns " + fifty + "+life", 6 + 100), lawFaults("earns " + fifty + "+[1", 6 + 101),
                lawFaults("earns " + fifty + "+[[[[1", 6 + 104), lawFaults("earns " + fifty + "+", 6 + 100),
                lawFaults("earns " + fifty + "+1001", 6 + 100), Edges.lawIsGood("earns " + fifty + ";bars"),
                // they are those of the whole TEXT: words and NUMBERS, SUMS and TESTS alike
                lawFaults("earns " + fifty + ";earns 1", 6 + 99 + 7), lawFaults("earns " + fifty + " if 1=1", 6 + 99 + 4),
                lawFaults("earns " + fifty + " if not (year=1)", 6 + 99 + 9),
                Edges.lawIsGood("earns life" + "+life".repeat(24) + ";dares 1" + "+1".repeat(24)),
                lawFaults("earns life" + "+life".repeat(24) + ";dares 1" + "+1".repeat(25), 6 + 124 + 7 + 50),
                Edges.lawIsGood("bars if " + "1=1 or ".repeat(24) + "1=1"),
                lawFaults("bars if " + "1=1 or ".repeat(25) + "1=1", 8 + 175),
                ordersFault("clip " + fifty + " as 1", 5 + 99 + 4),
                Edges.ordersAreGood("clip 1" + "+1".repeat(48) + " as 1"));
        edges.edge(HERE + ", promises 11, 12, 13", "8 brackets of both kinds within one another (FAULT at the 9th) at most.",
                Edges.earns("[".repeat(8) + "7" + "]".repeat(8), 7),
                lawFaults("earns " + "[".repeat(9) + "7" + "]".repeat(9), 6 + 8),
                lawFaults("earns " + "[".repeat(9), 6 + 8), lawFaults("earns " + "[".repeat(8), 6 + 8),
                lawFaults("earns " + "[".repeat(8) + "7", 6 + 9),
                Edges.isSo("(".repeat(7) + "1=1" + ")".repeat(7)),
                Edges.lawIsGood("bars if " + "(".repeat(8) + "1=1" + ")".repeat(8)),
                lawFaults("bars if " + "(".repeat(9) + "1=1" + ")".repeat(9), 8 + 8),
                Edges.lawIsGood("bars if " + "(".repeat(7) + "[1]=1" + ")".repeat(7)),
                Edges.lawIsGood("bars if " + "(".repeat(1) + "[".repeat(7) + "1" + "]".repeat(7) + "=1)"),
                lawFaults("bars if (" + "[".repeat(8) + "1" + "]".repeat(8) + "=1)", 8 + 8),
                lawFaults("bars if " + "(".repeat(8) + "[1]=1" + ")".repeat(8), 8 + 8),
                lawFaults("bars if " + "(".repeat(8) + "1=[1]" + ")".repeat(8), 8 + 10),
                lawFaults("bars if " + "not (".repeat(9) + "1=1" + ")".repeat(9), 8 + 44),
                // those that are closed are not within one another
                Edges.lawIsGood("earns " + "[1]+".repeat(20) + "[1]"), Edges.lawIsGood("bars if " + "(1=1)or".repeat(20) + "(1=1)"),
                Edges.lawIsGood("earns " + "[".repeat(8) + "7" + "]".repeat(8) + " if " + "(".repeat(8) + "1=1" + ")".repeat(8)),
                Edges.earns("[".repeat(8) + "7" + "]".repeat(8) + "+" + "[".repeat(8) + "7" + "]".repeat(8), 14),
                Edges.ordersAreGood("clip " + "[".repeat(8) + "0" + "]".repeat(8) + " as " + "[".repeat(8) + "1" + "]".repeat(8)),
                ordersFault("clip " + "[".repeat(9) + "0" + "]".repeat(9) + " as 1", 5 + 8),
                ordersFault("clip 0 as " + "[".repeat(9) + "0", 10 + 8), ordersFault("pass if " + "(".repeat(9), 8 + 8));
    }

    private static void faults(Edges edges) {
        edges.edge(HERE + ", promise 13", "FAULT: the first TOKEN that can't go on there (the end's: the TEXT's length).",
                lawFaults("", 0), lawFaults(" ", 1), lawFaults("what what", 0), lawFaults("  what", 2),
                lawFaults("bars what what", 5),
                lawFaults("bars if", 7), lawFaults("bars if   ", 10), lawFaults("earns", 5), lawFaults("earns  ", 7),
                lawFaults("bars;", 5),
                lawFaults("bars; ", 6), lawFaults("bars  ;  ;", 9), lawFaults("bars   if   )", 12), lawFaults("1", 0),
                lawFaults("if 1=1", 0),
                lawFaults("bars 1", 5), lawFaults("earns 1 earns 2", 8), lawFaults("pass", 0), lawFaults("bars times 2", 5),
                ordersFault("", 0), ordersFault("   ", 3), ordersFault("bars", 0), ordersFault("earns 1", 0),
                ordersFault("pass pass", 5),
                ordersFault("sign", 4), ordersFault("sign 0", 6), ordersFault("sign 0 ", 7), ordersFault("sign 0 on", 9),
                ordersFault("die 0 as", 8),
                "law 'bars' = 0\n fault() = -1", "orders 'pass' = 1\n fault() = -1");
    }

    /** Each word of both languages at each kind of place: where it can't go on, the FAULT is at it. */
    private static void wordsAtWrongPlaces(Edges edges) {
        List<String> runs = new ArrayList<>();
        for (String word : EVERY_WORD.split(" ")) {
            addFault(runs, true, "", word, "earns dares shows bars");
            addFault(runs, true, "earns ", word, "cat life spent ear gold ship year mood");
            addFault(runs, true, "earns 1+", word, "cat life spent ear gold ship year mood");
            addFault(runs, true, "earns 1 ", word, "if");
            addFault(runs, true, "bars ", word, "if");
            addFault(runs, true, "bars if ", word, "not cat life spent ear gold ship year mood");
            addFault(runs, true, "bars if 1=1 ", word, "or and");
            addFault(runs, true, "bars if 1 ", word, "");
            addFault(runs, true, "bars;", word, "earns dares shows bars");
            addFault(runs, false, "", word, "sign die clip pass");
            addFault(runs, false, "clip ", word, "year done latest alive life gold crew");
            addFault(runs, false, "pass ", word, "times if");
            addFault(runs, false, "pass times ", word, "");
            addFault(runs, false, "pass times 2 ", word, "if");
            addFault(runs, false, "sign 0 ", word, "on");
            addFault(runs, false, "die 0 ", word, "as");
            addFault(runs, false, "clip 0 ", word, "as");
            addFault(runs, false, "clip 0 as 1 ", word, "times if");
            addFault(runs, false, "pass if life ", word, "");
            addFault(runs, false, "pass;", word, "sign die clip pass");
        }
        edges.edge(HERE + ", promises 11, 12, 13", "FAULT: the first TOKEN that can't go on there", all(runs));
    }

    private static void addFault(List<String> runs, boolean isLaw, String ahead, String word, String allowed) {
        if (!List.of(allowed.split(" ")).contains(word)) {
            runs.add(isLaw ? lawFaults(ahead + word, ahead.length()) : ordersFault(ahead + word, ahead.length()));
        }
    }

    private static void broken(Edges edges) {
        String most = "1000*1000*1000";
        edges.edge(HERE + ", promises 11, 12", """
                Beyond 1,000,000,000 either way, or divided by 0 (/ cut towards 0, % what is left then), a SUM, a TEST is BROKEN
                """,
                Edges.earns(most + "/1000/1000/20", 50), Edges.isBroken(most + "+1"), Edges.isBroken("[" + most + "+1]/1000/1000"),
                Edges.isBroken(most + "+1-1"), Edges.earns(most + "-1-" + most + "+8", 7),
                Edges.earns("[0-" + most + "]/1000/1000/[0-20]", 50), Edges.isBroken("[0-" + most + "-1]/1000/1000/[0-20]"),
                Edges.isBroken("0-" + most + "-1+" + most), Edges.earns("0-" + most + "+" + most + "+9", 9),
                Edges.isBroken(most + "*2"), Edges.isBroken(most + "*[0-2]"), Edges.isBroken(most + "*2/1000/1000/100"),
                Edges.isBroken("[0-" + most + "]*1000*1000*1000*1000"), Edges.isBroken(most + "*" + most + "*" + most),
                Edges.isBroken("1000" + "*1000".repeat(49)), Edges.earns(most + "*1/1000/1000/20", 50),
                Edges.isBroken("7/0"), Edges.isBroken("7%0"), Edges.isBroken("0/0"), Edges.isBroken("0%0"),
                Edges.isBroken("7/[life-5]"),
                Edges.isBroken("0*[7/0]"), Edges.isBroken("7+1/0*0"), Edges.earns("0/7", 0), Edges.earns("0%7", 0),
                Edges.earns("50+7/2", 53), Edges.earns("50+[0-7]/2", 47), Edges.earns("50+7/[0-2]", 47),
                Edges.earns("50+[0-7]/[0-2]", 53),
                Edges.earns("50+7%4", 53), Edges.earns("50+[0-7]%4", 47), Edges.earns("50+7%[0-4]", 53),
                Edges.earns("50+[0-7]%[0-4]", 47),
                Edges.earns("50+1/2", 50), Edges.earns("50+[0-1]/2", 50), Edges.earns("50+[0-8]%4", 50),
                Edges.isSo(most + "=" + most), Edges.testIsBroken(most + "+1>0"), Edges.testIsBroken("0<" + most + "+1"),
                Edges.testIsBroken("1/0=1"), Edges.testIsBroken("1=1%0"), Edges.testIsBroken("not 1/0=1"),
                Edges.testIsBroken("(1/0=1)"));
    }

    private static void askedOnlyIfItMatters(Edges edges) {
        String yes = "1=1";
        String no = "1=2";
        String bad = "1/0=1";
        edges.edge(HERE + ", promises 11, 12", """
                ("or", "and" ask what stands behind only if it can still matter; a part that was asked and is BROKEN makes all of it BROKEN).
                """,
                Edges.isSo(yes + " or " + bad), Edges.testIsBroken(no + " or " + bad), Edges.testIsBroken(bad + " or " + yes),
                Edges.testIsBroken(bad + " or " + no), Edges.isNotSo(no + " and " + bad), Edges.testIsBroken(yes + " and " + bad),
                Edges.testIsBroken(bad + " and " + no), Edges.testIsBroken(bad + " and " + yes),
                Edges.isSo(no + " or " + yes + " or " + bad), Edges.isSo(yes + " or " + bad + " or " + bad),
                Edges.isNotSo(yes + " and " + no + " and " + bad), Edges.isNotSo(no + " and " + bad + " and " + bad),
                Edges.isSo(no + " and " + bad + " or " + yes), Edges.isNotSo(no + " and " + bad + " or " + no),
                Edges.isSo(yes + " or " + bad + " and " + bad), Edges.isSo(yes + " and " + yes + " or " + bad),
                Edges.testIsBroken(yes + " and " + no + " or " + bad), Edges.testIsBroken(no + " or " + yes + " and " + bad),
                Edges.isNotSo("(" + no + " and " + bad + ") and " + bad), Edges.isSo("not (" + no + " and " + bad + ")"),
                Edges.testIsBroken("not (" + no + " or " + bad + ") or " + yes),
                Edges.testIsBroken("(" + bad + " or " + yes + ") or " + yes),
                Edges.isSo("(" + yes + " or " + bad + ") and " + yes));
    }
}
