/** Laws: what a life earns, dares, shows, and who may not sign. */
final class EdgesOfLaws {
    private static final String HERE = "Terms II";

    static void tell(Edges edges) {
        laws(edges);
        clauses(edges);
        words(edges);
        askedOf(edges);
        holds(edges);
        earns(edges);
        daresAndShows(edges);
        barred(edges);
    }

    private static void laws(Edges edges) {
        edges.edge(HERE + ", promises 11, 15", "LAWS, 6 at most; one is in FORCE (NONE at first: no CLAUSE):", """
                cat(4) = 0; ship(0) = 0
                count(4) = 0
                count(12) = -1
                of(0, 6) = 5; of(0, 7) = 1; of(0, 8) = 4; at(0, 3) = 0
                law "earns 10;dares 2;shows 3;bars" = 0
                count(12) = -1
                of(0, 6) = 5; of(0, 7) = 1; of(0, 8) = 4; at(0, 3) = 0
                force(0) = -1
                of(0, 6) = 10; of(0, 7) = 2; of(0, 8) = 3; at(0, 3) = 1
                law "earns 11" = 1
                of(0, 6) = 10
                law "earns 12" = 2; law "earns 13" = 3; law "earns 14" = 4
                law "earns 15" = 5
                count(4) = 6
                law "earns 16" refused -5
                force(5) = 0
                of(0, 6) = 15; of(0, 7) = 1; of(0, 8) = 4; at(0, 3) = 0
                force(6) refused -2
                rich(0) = 10; rich(1) = 11; rich(2) = 12; rich(3) = 13; rich(4) = 14; rich(5) = 15
                """);
    }

    private static void clauses(Edges edges) {
        edges.edge(HERE + ", promises 11, 13", "CLAUSE: ((\"earns\" | \"dares\" | \"shows\") SUM | \"bars\") [\"if\" TEST].",
                Edges.lawIsGood("earns 1"), Edges.lawIsGood("dares 1"), Edges.lawIsGood("shows 1"), Edges.lawIsGood("bars"),
                Edges.lawIsGood("earns 1 if 1=1"), Edges.lawIsGood("dares 1 if 1=1"), Edges.lawIsGood("shows 1 if 1=1"),
                Edges.lawIsGood("bars if 1=1"), Edges.lawFaults("earns", 5), Edges.lawFaults("dares", 5),
                Edges.lawFaults("shows", 5),
                Edges.lawFaults("earns if 1=1", 6), Edges.lawFaults("dares if 1=1", 6), Edges.lawFaults("shows if 1=1", 6),
                Edges.lawFaults("bars 1", 5), Edges.lawFaults("bars 1 if 1=1", 5), Edges.lawFaults("earns 1 if", 10),
                Edges.lawFaults("earns 1 if 1=1 if 1=1", 15), Edges.lawFaults("earns 1 1=1", 8), Edges.lawFaults("earns 1 = 1", 8),
                Edges.lawFaults("earns 1 bars", 8), Edges.lawFaults("earns 1 times 2", 8), Edges.lawFaults("sign 0 on 0", 0),
                Edges.lawFaults("die 0 as 0", 0), Edges.lawFaults("clip 0 as 0", 0), Edges.lawFaults("pass", 0),
                Edges.lawFaults("if 1=1", 0), Edges.lawFaults("earns 1;pass", 8));
    }

    private static void words(Edges edges) {
        edges.edge(HERE + ", promises 3, 11, 13",
                "Words: \"cat\" | \"life\" | \"spent\" | \"ear\" | \"gold\" | \"ship\" | \"year\" | \"mood\".",
                Edges.under("earns cat") + "6 x cat(3) = 5; of(0, 6) = 0; of(5, 6) = 5",
                Edges.under("earns life") + "cat(0) = 0; cat(8) = 1; of(0, 6) = 0; of(1, 6) = 8",
                Edges.under("earns spent") + "cat(4) = 0; row 4 0 9 = 1; of(0, 6) = 0; of(1, 6) = 8; die(0, 8) = 7; of(0, 6) = 1",
                Edges.under("earns ear") + "cat(4) = 0; of(0, 6) = 9; clip(0, 8) = 9; of(0, 6) = 8; clip(0, 0) = 8; of(0, 6) = 0",
                Edges.under("earns 99;earns gold / 1000 if year > 101;earns gold if year = 0") + """
                cat(4) = 0
                of(0, 6) = 0
                terms(0, 1) = 0
                101 x pass() = 102
                count(16) = 9999
                of(0, 6) = 9
                """,
                Edges.under("earns 50 + ship") + """
                cat(4) = 0; ship(0) = 0; ship(0) = 1; ship(0) = 2
                of(0, 6) = 49
                sign(0, 0) = 1; of(0, 6) = 50
                sign(0, 2) = 1; of(0, 6) = 52
                """,
                Edges.under("earns year;earns year - 900 if year > 900") + """
                cat(4) = 0
                of(0, 6) = 0
                pass() = 1; of(0, 6) = 1
                terms(0, 999) = 1; of(0, 6) = 99
                """,
                Edges.under("earns mood") + "cat(4) = 0; of(0, 6) = 0; terms(2, 9) = 0; of(0, 6) = 9",
                Edges.lawFaults("earns done", 6), Edges.lawFaults("earns latest", 6), Edges.lawFaults("earns alive", 6),
                Edges.lawFaults("earns crew 0", 6), Edges.lawFaults("earns drays", 6), Edges.lawFaults("earns life 0", 11),
                Edges.lawFaults("earns gold 0", 11), Edges.lawFaults("earns cats", 6), Edges.lawFaults("earns spen", 6));
    }

    private static void askedOf(Edges edges) {
        edges.edge(HERE + ", promises 3, 5, 16", """
                All are asked of a CAT AT a LIFE with so many SPENT ("bars": that would sign on a SHIP; ship: the CAT's own else, -1: none).
                """,
                Edges.under("bars if ship = 1;earns 50 + ship") + """
                ship(0) = 0; ship(0) = 1; cat(3) = 0
                at(0, 3) = 0
                at(1, 3) = 1
                sign(0, 1) refused -3
                sign(0, 0) = 1
                at(0, 3) = 0
                at(1, 3) = 1
                of(0, 6) = 50
                """,
                Edges.under("bars if ship < 0;earns 5 if ship = 0 - 1;dares 6 if ship = 0 - 1;shows 7 if ship = 0 - 1") + """
                ship(0) = 0; cat(3) = 0
                at(0, 3) = 0
                of(0, 6) = 5; of(0, 7) = 6; of(0, 8) = 7
                sign(0, 0) = 1
                of(0, 6) = 4; of(0, 7) = 1; of(0, 8) = 3
                """,
                Edges.under("bars if spent = 8 and life = 2;earns 70 if spent = 8 and life = 2") + """
                ship(0) = 0
                row 2 0 9 2 1 9 3 0 9 = 3
                at(0, 3) = 1
                of(0, 6) = 70; of(1, 6) = 3; of(2, 6) = 4
                next(1, 1) = 0
                """);
    }

    private static void holds(Edges edges) {
        edges.edge(HERE + ", promises 3, 5, 11",
                "A CLAUSE HOLDS, if its \"if\" (if it has one) is so, and neither that nor its SUM is BROKEN.",
                Edges.earns("9", 9), Edges.earns("9 if life=5", 9), Edges.earns("9 if life=4", 6), Edges.earns("9 if 1/0=1", 6),
                Edges.earns("9 if not 1/0=1", 6), Edges.earns("9/0", 6), Edges.earns("9/0 if life=5", 6),
                Edges.earns("9/0 if 1/0=1", 6),
                Edges.earns("9;earns 8/0", 9), Edges.earns("9;earns 8 if 1/0=1", 9), Edges.earns("9;earns 8 if life=4", 9),
                Edges.under("bars if 1/0=1") + "ship(0) = 0; cat(3) = 0; at(0, 3) = 0; sign(0, 0) = 1",
                Edges.under("bars if not 1/0=1") + "ship(0) = 0; cat(3) = 0; at(0, 3) = 0; sign(0, 0) = 1",
                Edges.under("bars if 1=1") + "ship(0) = 0; cat(3) = 0; at(0, 3) = 1; sign(0, 0) refused -3",
                Edges.under("bars if 1=2") + "ship(0) = 0; cat(3) = 0; at(0, 3) = 0; sign(0, 0) = 1",
                Edges.under("dares 5/0;shows 5%0") + "cat(3) = 0; of(0, 7) = 1; of(0, 8) = 3");
    }

    private static void earns(Edges edges) {
        edges.edge(HERE + ", promises 3, 19",
                "A CAT EARNS 0 .. 99 a YEAR as the last \"earns\" that HOLDS tells (else the nearest), without its LIFE and 1;",
                Edges.earns("98", 98), Edges.earns("99", 99), Edges.earns("100", 99), Edges.earns("1000*1000*1000", 99),
                Edges.earns("1", 1), Edges.earns("0", 0), Edges.earns("0-1", 0), Edges.earns("0-1000*1000*1000", 0),
                Edges.earns("1;earns 2;earns 3", 3), Edges.earns("1;earns 2;earns 3 if life=4", 2),
                Edges.earns("1;earns 2/0;earns 3/0", 1),
                Edges.earns("50;earns 100", 99), Edges.earns("50;earns 0-1", 0), Edges.earns("7;dares 8;shows 9;bars", 7),
                Edges.under("dares 8;shows 9;bars") + "cat(0) = 0; cat(8) = 1; of(0, 6) = 1; of(1, 6) = 9",
                "cat(0) = 0; cat(8) = 1; of(0, 6) = 1; of(1, 6) = 9; pass() = 1; of(0, 3) = 1; of(1, 3) = 9",
                Edges.under("earns 100") + "cat(0) = 0; pass() = 1; of(0, 3) = 99; had(0, 1) = 99000000; rich(0) = 99",
                Edges.under("earns 0 - 1") + "cat(0) = 0; pass() = 1; of(0, 3) = 0; had(0, 1) = 0; rich(0) = 0");
    }

    private static String tells(String law, int what, int due) {
        return Edges.under(law) + "cat(5) = 0; of(0, " + what + ") = " + due;
    }

    private static void daresAndShows(Edges edges) {
        edges.edge(HERE + ", promises 3, 23, 35", "it DARES 0 .. 10 (its danger of ten a YEAR), DRAYS without;",
                tells("dares 9", 7, 9), tells("dares 10", 7, 10), tells("dares 11", 7, 10), tells("dares 1000*1000*1000", 7, 10),
                tells("dares 1", 7, 1), tells("dares 0", 7, 0), tells("dares 0-1", 7, 0), tells("dares 0-1000*1000*1000", 7, 0),
                tells("dares 3;dares 4;dares 5 if 1=2", 7, 4), tells("dares 3;earns 4;shows 5;bars", 7, 3),
                "cat(5) = 0; of(0, 7) = 1; terms(1, 0) = 1; of(0, 7) = 0; terms(1, 10) = 0; of(0, 7) = 10",
                Edges.under("earns 5;shows 5;dares 3 if 1=2") + "cat(5) = 0; terms(1, 7) = 1; of(0, 7) = 7",
                // of ten a YEAR: 11 is 10, so that it surely dies, and -1 is 0, so that it surely does not
                Edges.under("dares 11") + "row 5 0 9 = 1; likely(0, 1) = 0; years(0, 1) = 1",
                Edges.under("dares 0-1") + "row 5 0 9 = 1; likely(0, 60) = 1000000000000; years(0, 60) = 0");
        edges.edge(HERE + ", promises 3, 26", "it SHOWS a doing 0 .. 9, its LIFE without;",
                tells("shows 8", 8, 8), tells("shows 9", 8, 9), tells("shows 10", 8, 9), tells("shows 1000*1000*1000", 8, 9),
                tells("shows 1", 8, 1), tells("shows 0", 8, 0), tells("shows 0-1", 8, 0), tells("shows 0-1000*1000*1000", 8, 0),
                tells("shows 3;shows 4;shows 6 if 1=2", 8, 4), tells("shows 3;earns 4;dares 6;bars", 8, 3),
                "cat(0) = 0; cat(8) = 1; of(0, 8) = 0; of(1, 8) = 8",
                Edges.under("earns 6;dares 6;shows 3 if 1=2") + "cat(0) = 0; cat(8) = 1; of(0, 8) = 0; of(1, 8) = 8",
                Edges.under("shows 10") + "cat(5) = 0; seen(9) = 1; canBe(0) = 511; explained(0) = 1; look(0, 1) = 9",
                Edges.under("shows 0-1") + "cat(5) = 0; seen(0) = 1; canBe(0) = 511; explained(0) = 1; look(0, 1) = 9");
    }

    private static void barred(Edges edges) {
        edges.edge(HERE + ", promises 5, 16", "it is BARRED from a SHIP, if \"bars\" HOLDS.",
                Edges.under("bars if ship = 2 and cat = 5;bars if ship = 0 and cat = 0;bars if 1=2") + """
                ship(0) = 0; ship(0) = 1; ship(0) = 2
                6 x cat(3) = 5
                at(0, 3) = 1; at(1, 3) = 0; at(2, 3) = 32
                sign(0, 0) refused -3
                sign(5, 2) refused -3
                sign(0, 2) = 1
                sign(5, 0) = 1
                """,
                // any of them will do, not the last alone
                Edges.under("bars;bars if 1=2;bars if 1/0=1") + "ship(0) = 0; cat(0) = 0; at(0, 3) = 1; sign(0, 0) refused -3",
                Edges.under("earns 1;dares 1;shows 1") + "ship(0) = 0; cat(0) = 0; at(0, 3) = 0; sign(0, 0) = 1",
                "ship(0) = 0; cat(0) = 0; at(0, 3) = 0; sign(0, 0) = 1");
    }
}
