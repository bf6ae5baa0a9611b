/** Lives, cats, ships, what was seen, terms, what a call is refused by. */
final class EdgesOfTermsI {
    private static final String HERE = "Terms I";
    private static final String LEAST = Edges.LEAST;
    private static final String MOST = Edges.MOST;

    static void tell(Edges edges) {
        lives(edges);
        cats(edges);
        whatACatHas(edges);
        spent(edges);
        ships(edges);
        seen(edges);
        terms(edges);
        refusedInOrder(edges);
    }

    private static void lives(Edges edges) {
        edges.edge(HERE + ", promises 2, 4, 9, 17", "LIVES 0 .. 8.", """
                cat(-1) refused -1
                cat(0) = 0
                of(0, 0) = 0
                cat(8) = 1
                of(1, 0) = 8
                cat(9) refused -1
                count(0) = 2
                die(0, 8) = 7
                die(1, 0) = 7
                of(0, 0) = 8
                of(1, 0) = 0
                row 8 8 9 9 0 9 = 1
                mice() = 1
                of(2, 0) = 8
                """, "cat(" + LEAST + ") refused -1; cat(" + MOST + ") refused -1; ship(511) = 0; ship(512) refused -1");
        edges.edge("The constants, promises 3, 15", "The constants: `NONE = -1`: There is none; GONE.", """
                of(0, 0) none
                force(-1) = -1
                count(12) = -1
                row 4 0 9 = 1
                of(0, 4) = -1
                die(0, 9) = 0
                of(0, 0) = -1
                """);
    }

    private static void cats(Edges edges) {
        edges.edge(HERE + ", promises 2, 3, 9", "CATS 0 .. 5 (6 at most): AT a LIFE, or GONE (NONE),", """
                count(0) = 0
                of(0, 0) none
                cat(3) = 0
                of(-1, 0) none
                of(1, 0) none
                cat(3) = 1
                cat(3) = 2
                cat(3) = 3
                cat(3) = 4
                of(5, 0) none
                cat(7) = 5
                of(5, 0) = 7
                of(6, 0) none
                cat(3) refused -5
                count(0) = 6
                """, """
                row 1 0 9 2 0 9 3 0 9 4 0 9 5 0 9 6 0 9 = 6
                die(5, 9) = 0
                of(5, 0) = -1
                die(0, 9) = 0
                of(0, 0) = -1
                cat(3) refused -5       # those that are GONE are there still
                row 1 1 1 = 0
                count(0) = 6
                count(1) = 4
                """);
    }

    private static void whatACatHas(Edges edges) {
        StringBuilder yet = new StringBuilder();
        for (int life = 0; life < 6; life++) {
            yet.append("cat(").append(life).append(") = ").append(life).append('\n');
            yet.append("of(").append(life).append(", 1) = ").append(511 - (1 << life)).append('\n');
        }
        edges.edge(HERE + ", promises 2, 3, 17", "LIVES it has YET (as bits; not the one it is AT),", yet.toString(), """
                cat(8) = 0; of(0, 1) = 255
                die(0, 0) = 7; of(0, 1) = 254
                die(0, 7) = 6; of(0, 1) = 126
                """, """
                row 8 8 9 0 8 9 4 1 9 0 1 9 4 0 9 = 5
                of(0, 1) = 255
                of(1, 1) = 510
                of(2, 1) = 1
                of(3, 1) = 2
                of(4, 1) = 0
                die(4, 9) = 0
                of(4, 1) = 0
                """);
        edges.edge(HERE + ", promises 3, 9, 18", "an EAR 0 .. 9 (9: not clipped, at first),", """
                cat(5) = 0
                of(0, 2) = 9
                clip(0, -1) refused -1
                clip(0, 9) refused -1
                clip(0, 8) = 9
                of(0, 2) = 8
                clip(0, 0) = 8
                of(0, 2) = 0
                clip(0, 9) refused -1
                """, """
                row 1 0 0 1 0 9 1 0 10 = 2
                mice() = 1
                of(0, 2) = 0
                of(1, 2) = 9
                """);
        edges.edge(HERE + ", promises 3, 19", "GOLD 0 .. 9999 (0 at first),",
                "cat(5) = 0; of(0, 3) = 0; row 3 3 3 = 1; of(1, 3) = 0",
                Edges.under("earns 99;earns 98 if year = 100;earns 1 if year = 101") + """
                cat(5) = 0
                100 x pass() = 100
                of(0, 3) = 9900
                pass() = 101
                of(0, 3) = 9998
                pass() = 102
                of(0, 3) = 9999
                pass() = 103
                of(0, 3) = 9999
                pass() = 104
                of(0, 3) = 9999
                """, Edges.under("earns 0 - 5") + "cat(5) = 0; pass() = 1; of(0, 3) = 0");
        edges.edge(HERE + ", promises 3, 16", "a SHIP or none (NONE at first).", """
                ship(0) = 0; ship(0) = 1; ship(0) = 2
                cat(5) = 0
                row 5 0 0 = 1
                of(0, 4) = -1
                of(1, 4) = -1
                sign(0, 2) = 1
                of(0, 4) = 2
                of(1, 4) = -1
                sign(0, 0) = 1
                of(0, 4) = 0
                """);
    }

    private static void spent(Edges edges) {
        edges.edge(HERE + ", promises 3, 17", "It has SPENT LIVES: nine less those it has YET, and the one it is AT.", """
                cat(0) = 0
                of(0, 5) = 0
                die(0, 8) = 7
                of(0, 5) = 1
                die(0, 1) = 6; die(0, 2) = 5; die(0, 3) = 4; die(0, 4) = 3; die(0, 5) = 2; die(0, 6) = 1
                of(0, 5) = 7
                die(0, 7) = 0
                of(0, 5) = 8
                die(0, 9) = 0
                of(0, 5) = 9
                """, "row 2 8 9 2 7 9 2 0 9 = 3; of(0, 5) = 0; of(1, 5) = 1; of(2, 5) = 8");
    }

    private static void ships(Edges edges) {
        edges.edge(HERE + ", promises 4, 5", "SHIPS 0 .. 2 (3 at most): NEEDS, LIVES as bits.", """
                count(2) = 0
                at(0, 0) none
                ship(0) = 0
                at(0, 0) = 0
                ship(511) = 1
                at(1, 0) = 511
                at(2, 0) none
                ship(256) = 2
                at(2, 0) = 256
                at(3, 0) none
                at(-1, 0) none
                ship(1) refused -5
                count(2) = 3
                """, "ship(-1) refused -1; ship(512) refused -1; ship(" + LEAST + ") refused -1; ship(" + MOST
                + ") refused -1; count(2) = 0");
    }

    private static void seen(Edges edges) {
        edges.edge(HERE + ", promise 24", "SEEN, 8 at most, in that order: a doing 0 .. 9.", """
                seen(-1) refused -1
                seen(10) refused -1
                seen(0) = 1
                seen(9) = 2
                seen(1) = 3; seen(2) = 4; seen(3) = 5; seen(4) = 6; seen(5) = 7; seen(6) = 8
                seen(7) refused -5
                count(3) = 8
                """, Edges.under("shows year + 1;shows 0 if life = 3 and year = 7") + """
                cat(3) = 0; cat(4) = 1
                seen(1) = 1; seen(2) = 2; seen(3) = 3; seen(4) = 4; seen(5) = 5; seen(6) = 6; seen(7) = 7
                canBe(0) = 511
                seen(8) = 8
                canBe(0) = 503          # all but life 3: the eighth counts
                explained(0) = 2
                explained(1) = 1
                forget() = 8
                seen(2) = 1; seen(1) = 2
                canBe(0) = 0            # not in another order
                """);
    }

    private static void terms(Edges edges) {
        edges.edge(HERE + ", promises 6, 39", "TERMS: 0 YEAR 0 .. 999 (0 at first), 1 DRAYS 0 .. 10 (1), 2 MOOD 0 .. 9 (0).", """
                count(13) = 0; count(14) = 1; count(15) = 0
                terms(0, 999) = 0
                terms(0, 1000) refused -1
                terms(0, -1) refused -1
                terms(0, 0) = 999
                terms(1, 10) = 1
                terms(1, 11) refused -1
                terms(1, -1) refused -1
                terms(1, 0) = 10
                terms(2, 9) = 0
                terms(2, 10) refused -1
                terms(2, -1) refused -1
                terms(2, 0) = 9
                terms(3, 0) refused -1
                terms(-1, 0) refused -1
                count(13) = 0; count(14) = 0; count(15) = 0
                """, "terms(0, " + MOST + ") refused -1; terms(1, " + LEAST + ") refused -1; terms(" + MOST
                + ", 0) refused -1; terms(" + LEAST + ", 0) refused -1");
    }

    private static void refusedInOrder(Edges edges) {
        edges.edge(HERE + ", promise 40", """
                REFUSED by: -1 a number that can't be; -2 there is no such CAT, SHIP, LAW, IMAGE; -3 it can't be by what stands;
                -5 no room; -6 a TEXT, a ROW that can't be. The first of these in that order.
                """, """
                die(0, 10) refused -1       # there is no such cat, either
                clip(0, 9) refused -1
                years(-1, 1) refused -1     # there are no cats, either
                years(0, 0) refused -1
                back(2) refused -1          # it was not kept, either
                die(0, 9) refused -2
                clip(0, 0) refused -2
                sign(0, 0) refused -2
                force(0) refused -2
                back(0) refused -2
                years(0, 1) refused -3
                undo() refused -3
                law() refused -6
                orders() refused -6
                row() refused -6
                """, """
                ship(0) = 0
                row 1 0 9 2 0 9 3 0 9 4 0 9 5 0 9 6 0 9 = 6
                die(0, 9) = 0
                sign(0, 1) refused -2       # it is gone, too
                sign(6, 0) refused -2
                sign(0, 0) refused -3
                die(0, 10) refused -1       # it is gone, too
                die(0, 9) refused -3
                cat(9) refused -1           # there is no room, either
                cat(8) refused -5
                """, """
                ship(0) = 0; ship(0) = 1; ship(0) = 2
                ship(512) refused -1        # there is no room, either
                ship(511) refused -5
                8 x seen(1) = 8
                seen(10) refused -1
                seen(9) refused -5
                """, """
                6 x law "bars" = 5
                law "what" refused -5       # it is no law, either
                law() refused -5
                """);
    }
}
