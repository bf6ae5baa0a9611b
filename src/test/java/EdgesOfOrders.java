/** Orders: what they are, and that they are run wholly or not at all. */
final class EdgesOfOrders {
    private static final String HERE = "Terms II";

    static void tell(Edges edges) {
        clauses(edges);
        whatTheyAreOf(edges);
        times(edges);
        words(edges);
        partsAside(edges);
        run(edges);
        whatWordsTell(edges);
        whollyOrNotAtAll(edges);
    }

    private static void clauses(Edges edges) {
        edges.edge(HERE + ", promises 12, 13", """
                ORDERS: CLAUSE: ("sign" SUM "on" SUM | "die" SUM "as" SUM | "clip" SUM "as" SUM | "pass") ["times" TIMES] ["if" TEST].
                """,
                Edges.ordersAreGood("sign 0 on 0"), Edges.ordersAreGood("die 0 as 0"), Edges.ordersAreGood("clip 0 as 0"),
                Edges.ordersAreGood("pass"), Edges.ordersAreGood("sign 0 on 0 times 2 if 1=1"), Edges.ordersAreGood("pass times 2"),
                Edges.ordersAreGood("pass if 1=1"), Edges.ordersFault("sign", 4), Edges.ordersFault("sign on 0", 5),
                Edges.ordersFault("sign 0", 6), Edges.ordersFault("sign 0 as 0", 7), Edges.ordersFault("sign 0 0", 7),
                Edges.ordersFault("sign 0 on", 9), Edges.ordersFault("die 0 on 0", 6), Edges.ordersFault("die as 0", 4),
                Edges.ordersFault("die 0 as", 8), Edges.ordersFault("clip 0 on 0", 7), Edges.ordersFault("clip as 0", 5),
                Edges.ordersFault("clip 0 as", 9), Edges.ordersFault("clip 0 as 1 as 2", 12), Edges.ordersFault("pass 1", 5),
                Edges.ordersFault("pass as 1", 5), Edges.ordersFault("pass if 1=1 times 2", 12),
                Edges.ordersFault("pass times 2 times 2", 13),
                Edges.ordersFault("pass if 1=1 if 1=1", 12), Edges.ordersFault("pass times", 10), Edges.ordersFault("pass if", 7),
                Edges.ordersFault("earns 1", 0), Edges.ordersFault("bars", 0), Edges.ordersFault("times 2", 0),
                Edges.ordersFault("pass;earns 1", 5));
    }

    private static void whatTheyAreOf(Edges edges) {
        edges.edge(HERE + ", promise 12", "(a CAT, a SHIP; a CAT, its next LIFE, 9: none; a CAT, an EAR; a YEAR.)", """
                6 x cat(3) = 5
                ship(0) = 0; ship(0) = 1; ship(0) = 2
                orders "sign 0 on 2;sign 5 on 0" = 2
                of(0, 4) = 2; of(5, 4) = 0
                orders "die 0 as 8;die 5 as 0" = 2
                of(0, 0) = 8; of(5, 0) = 0
                orders "clip 0 as 8;clip 5 as 0" = 2
                of(0, 2) = 8; of(5, 2) = 0
                orders "pass" = 1
                count(13) = 1
                orders "sign 6 on 0" refused -3
                orders "sign 0 on 3" refused -3
                orders "sign 0-1 on 0" refused -3
                orders "sign 0 on 0-1" refused -3
                orders "die 1 as 9" refused -3
                orders "die 1 as 10" refused -3
                orders "die 1 as 0-1" refused -3
                orders "clip 1 as 9" refused -3
                orders "clip 1 as 0-1" refused -3
                orders "clip 6 as 0" refused -3
                orders "die 6 as 0" refused -3
                """, """
                row 4 0 9 3 1 9 = 2
                orders "die 0 as 9" = 1
                of(0, 0) = -1
                orders "die 1 as 9" refused -3      # it has one yet
                orders "die 0 as 9" refused -3      # it is gone
                orders "die 1 as 0;die 1 as 9" = 2
                of(1, 0) = -1
                """);
    }

    private static void times(Edges edges) {
        edges.edge(HERE + ", promises 12, 13", "TIMES: a NUMBER 1 .. 20.",
                "orders 'pass times 1' = 1; count(13) = 1", "orders 'pass times 20' = 20; count(13) = 20",
                "orders 'pass times 19' = 19",
                Edges.ordersFault("pass times 0", 11), Edges.ordersFault("pass times 21", 11),
                Edges.ordersFault("pass times 1001", 11),
                Edges.ordersFault("pass times 4294967297", 11), Edges.ordersFault("pass times 1+1", 12),
                Edges.ordersFault("pass times [2]", 11),
                Edges.ordersFault("pass times year", 11), Edges.ordersFault("pass times 0-1", 11),
                Edges.ordersFault("pass times", 10),
                Edges.ordersFault("pass times if 1=1", 11),
                "orders '" + "pass times 20;".repeat(11) + "pass times 20' = 240; count(13) = 240");
    }

    private static void words(Edges edges) {
        edges.edge(HERE + ", promises 12, 13", """
                Words: "year" | "done" | "latest" | "alive" | "life" C | "gold" C | "crew" S (C: a NUMBER 0 .. 5, S: 0 .. 2).
                """,
                Edges.ordersAreGood("pass if year=done and latest=alive"), Edges.ordersAreGood("pass if life 0=life 5"),
                Edges.ordersAreGood("pass if gold 0=gold 5"), Edges.ordersAreGood("pass if crew 0=crew 2"),
                Edges.ordersFault("pass if life 6=0", 13), Edges.ordersFault("pass if gold 6=0", 13),
                Edges.ordersFault("pass if crew 3=0", 13),
                Edges.ordersFault("pass if life 1000=0", 13), Edges.ordersFault("pass if life 4294967296=0", 13),
                Edges.ordersFault("pass if life=0", 12), Edges.ordersFault("pass if gold=0", 12),
                Edges.ordersFault("pass if crew=0", 12),
                Edges.ordersFault("pass if life", 12), Edges.ordersFault("pass if crew ", 13),
                Edges.ordersFault("pass if life [0]=0", 13),
                Edges.ordersFault("pass if life 0-1=0 and life year=0", 28), Edges.ordersFault("pass if gold 0 0=0", 15),
                Edges.ordersFault("pass if year 0=0", 13), Edges.ordersFault("pass if done 0=0", 13),
                Edges.ordersFault("pass if alive 0=0", 14),
                Edges.ordersFault("pass if cat=0", 8), Edges.ordersFault("pass if spent=0", 8),
                Edges.ordersFault("pass if ear=0", 8),
                Edges.ordersFault("pass if ship=0", 8), Edges.ordersFault("pass if mood=0", 8));
    }

    private static void partsAside(Edges edges) {
        String sum = "life 0" + "+life 0".repeat(48);
        edges.edge(HERE + ", promises 12, 13", "C, S, TIMES aside, NUMBERS and words count as PARTS.",
                Edges.ordersAreGood("clip " + sum + " as 1 times 20"),
                Edges.ordersFault("clip " + sum + " as 1+1", 5 + 6 + 48 * 7 + 4 + 2),
                Edges.ordersFault("clip " + sum + " as 1 if 1=1", 5 + 6 + 48 * 7 + 4 + 5),
                Edges.ordersAreGood("pass times 20 if " + "crew 0=gold 0 or ".repeat(20) + "1=1"),
                Edges.ordersAreGood("pass times 20 if " + "crew 0<year or ".repeat(24) + "1=1"),
                Edges.ordersFault("pass times 20 if " + "crew 0<1 or ".repeat(25) + "1=1", 17 + 300),
                Edges.ordersFault("pass times 20 if " + "crew 0<1 or ".repeat(25) + "life 6=1", 17 + 300),
                Edges.ordersAreGood("pass if year" + "+year".repeat(48) + "=1"),
                Edges.ordersFault("pass if year" + "+year".repeat(49) + "=1", 8 + 250));
    }

    private static void run(Edges edges) {
        edges.edge(HERE + ", promise 12", """
                Run CLAUSE by CLAUSE, each as often as TIMES tell (once without); each time its "if" is asked (not run, if it is not so or BROKEN),
                then its SUMS from the left.
                """, """
                cat(3) = 0
                orders "pass;clip 0 as year;pass times 2;clip 0 as year" = 5
                of(0, 2) = 3
                orders "pass times 20 if year < 5" = 2
                count(13) = 5
                orders "pass times 3 if 1 = 2" = 0
                orders "pass times 3 if 1/0 = 1" = 0
                orders "pass times 3 if not 1/0 = 1" = 0
                stopped() = -1
                orders "clip 1/0 as 1 if 1 = 2" = 0        # its sums are not asked then
                orders "clip 1/0 as 1 if 1/0 = 1" = 0
                orders "clip 0 as done times 4 if done < 3" = 3
                of(0, 2) = 2
                count(13) = 5
                """, """
                cat(3) = 0
                orders "die life 0 - 3 as life 0 + 1" = 1
                of(0, 0) = 4
                """, """
                cat(0) = 0
                orders "die 0 as life 0 + 1 times 8" = 8   # each time its sums are asked anew
                of(0, 0) = 8
                of(0, 5) = 8
                """);
    }

    private static void whatWordsTell(Edges edges) {
        edges.edge(HERE + ", promise 12", """
                done: how many were run in this TEXT, latest: what the latest die in it told (-1: none), alive: how many CATS are not GONE,
                life (GONE, too), gold: -1 without such a CAT, crew: how many have signed on, -1 without such a SHIP.
                """, """
                orders "pass if done=0 and latest=0-1 and alive=0 and life 0=0-1 and life 5=0-1 and gold 0=0-1" = 1
                orders "pass if gold 5=0-1 and crew 0=0-1 and crew 2=0-1 and year=1" = 1
                orders "pass if year=2;pass if done=1;pass if 1=2;pass if done=2" = 3
                orders "pass if done=0" = 1
                """, """
                cat(0) = 0
                row 8 0 9 7 1 9 = 2
                ship(0) = 0
                orders "pass if life 0=0 and life 1=8 and life 2=7 and life 3=0-1 and alive=3 and gold 1=0 and crew 0=0" = 1
                orders "sign 1 on 0;pass if crew 0=1;sign 2 on 0;pass if crew 0=2 and crew 1=0-1" = 4
                orders "die 1 as 9;pass if latest=0 and alive=2 and life 1=0-1 and gold 1=27 and crew 0=1" = 2
                orders "pass if latest=0-1" = 1            # it is of this text
                orders "die 0 as 5;pass if latest=7;die 2 as 0;pass if latest=0;clip 0 as 1;pass if latest=0" = 6
                orders "die 0 as 6;die 0 as 7 if 1=2;pass if latest=6" = 2
                orders "die 2 as 9;die 0 as 8;pass if latest=5 and alive=1" = 3
                """, """
                6 x cat(4) = 5
                3 x ship(0) = 2
                sign(5, 2) = 1; sign(4, 2) = 2
                orders "pass if alive=6 and life 5=4 and crew 2=2 and crew 1=0;pass if gold 5=5 and gold 0=5" = 2
                orders "pass times 20" = 20
                orders "pass if gold 5=110 and year=22" = 1
                """);
    }

    private static void whollyOrNotAtAll(Edges edges) {
        String port = Edges.under("bars if ship = 1") + """
                cat(0) = 0
                row 5 0 9 6 0 9 = 2
                ship(0) = 0; ship(0) = 1
                die(2, 9) = 0
                clip(0, 4) = 9
                sign(1, 0) = 1
                image(0) = 0
                """;
        String[] wrong = {"clip 1/0 as 1", "clip 0 as 1%0", "clip 1000*1000*1000*2 as 1", "sign 3 on 0", "sign 0 on 2",
                "sign 0 on 1",
            "sign 1 on 0", "sign 2 on 0", "die 3 as 1", "die 0 as 10", "die 0 as 9", "die 0 as 7 times 2", "die 2 as 9",
            "die 1 as 1",
            "clip 0 as 3 times 2", "clip 0 as 9", "clip 3 as 1", "pass times 20;pass times 20;pass times 20;clip 9 as 9"};
        String[] runs = new String[wrong.length + 6];
        for (int i = 0; i < wrong.length; i++) {
            runs[i] = port + "orders 'pass;die 0 as 8;sign 0 on 0;clip 1 as 1;" + wrong[i]
                    + ";pass' refused -3\n fault() = -1\n count(13) = 0\n"
                    + "of(0, 0) = 0\n of(0, 2) = 4\n of(0, 4) = -1\n of(1, 2) = 9\n count(16) = 0\n count(5) = 3\n";
        }
        runs[wrong.length] = "cat(0) = 0; terms(0, 998) = 0; orders 'pass times 2' refused -3; stopped() = 0; count(13) = 998; "
                + "of(0, 3) = 0";
        runs[wrong.length + 1] = "cat(0) = 0; terms(0, 998) = 0; orders 'pass;pass' refused -3; stopped() = 1; orders 'pass' = 1; "
                + "count(13) = 999";
        runs[wrong.length + 2] = "cat(0) = 0; orders 'clip 0 as 9' refused -3; stopped() = 0; orders 'die 0 as 0;pass' refused -3; "
                + "stopped() = 0";
        // the sixteen that could be undone, too, though more than sixteen were run since
        runs[wrong.length + 3] = "cat(3) = 0; 16 x pass() = 16; orders 'clip 0 as 1;pass times 20;clip 0 as 9' refused -3; "
                + "count(5) = 16; 16 x undo() = 3; count(13) = 0";
        runs[wrong.length + 4] = "cat(3) = 0; clip(0, 8) = 9; 7 x pass() = 7; clip(0, 1) = 8; 9 x pass() = 16; "
                + "orders 'pass times 20;clip 0 as 9' refused -3; count(5) = 16; "
                + "9 x undo() = 3; undo() = 2; of(0, 2) = 8; 6 x undo() = 3; count(13) = 1; undo() refused -3";
        runs[wrong.length + 5] = "cat(3) = 0; 16 x pass() = 16; orders 'clip 0 as done % 8 times 20;clip 0 as 9' refused -3; "
                + "count(5) = 16; "
                + "15 x undo() = 3; undo() = 3; count(13) = 0; undo() refused -3";
        edges.edge(HERE + ", promises 12, 14, 20", """
                One that can't be (a BROKEN SUM, as sign(), die(), clip(), pass() are REFUSED) ends it: all is as it was ahead of it.
                """, runs);
    }
}
