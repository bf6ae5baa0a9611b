/** Years with a seed, rows, images. The answers are reckoned by hand. */
final class EdgesOfTermsIV {
    private static final String HERE = "Terms IV";

    static void tell(Edges edges) {
        draws(edges);
        years(edges);
        rows(edges);
        images(edges);
        fullImages(edges);
    }

    private static void draws(Edges edges) {
        edges.edge(HERE + ", promise 35", """
                IV. YEARS with a SEED, n 1 .. 60, on paper: s is the SEED (0 .. 1,000,000); a DRAW of m: s becomes (s times 1103 and 12345) modulo
                1,000,003, it is s modulo m.
                """, """
                cat(3) = 0
                years(-1, 1) refused -1
                years(1000001, 1) refused -1
                years(0, 0) refused -1
                years(0, 61) refused -1
                terms(1, 0) = 1
                years(0, 1) = 0
                drawn(0, 2) = 4
                years(1000000, 60) = 0
                drawn(0, 2) = 240
                count(13) = 0               # on paper
                of(0, 3) = 0
                """,
                // from 0 on s is 12345 (a draw of 5), 628841 (1), 621889 (9)
                "cat(3) = 0; terms(1, 5) = 1; years(0, 1) = 0; terms(1, 6) = 5; years(0, 1) = 1",
                "cat(3) = 0; terms(1, 1) = 1; years(0, 2) = 0; terms(1, 2) = 1; years(0, 2) = 1",
                "cat(3) = 0; terms(1, 9) = 1; years(0, 3) = 2; terms(1, 10) = 9; years(0, 3) = 3",
                // from 1000000 on it is 9036 (6), from 999999 on 7933 (3)
                "cat(3) = 0; terms(1, 6) = 1; years(1000000, 1) = 0; terms(1, 7) = 6; years(1000000, 1) = 1",
                "cat(3) = 0; terms(1, 3) = 1; years(999999, 1) = 0; terms(1, 4) = 3; years(999999, 1) = 1");
    }

    private static void years(Edges edges) {
        edges.edge(HERE + ", promises 35, 36", """
                Each time, as long as YEAR is below 999, CAT by CAT that is not GONE a DRAW of 10: below what it DARES it DIES (the lowest LIFE next);
                then the YEAR passes.
                """,
                Edges.under("dares 10") + """
                cat(3) = 0
                terms(0, 998) = 0
                years(0, 60) = 1            # one year is left
                drawn(0, 0) = 0; drawn(0, 1) = 7; drawn(0, 2) = 1
                terms(0, 999) = 998
                years(0, 60) = 0            # none is
                drawn(0, 0) = 3; drawn(0, 1) = 8; drawn(0, 2) = 0
                terms(0, 997) = 999
                years(0, 60) = 2
                drawn(0, 0) = 1
                """,
                // from 3 on the draws are 4, 6, 2: the first is the first cat's, then the second's; one that is gone has none
                Edges.under("dares 6") + "cat(3) = 0; cat(4) = 1; years(3, 1) = 1; drawn(0, 0) = 0; drawn(1, 0) = 4",
                Edges.under("dares 6") + "row 5 0 9 3 8 9 4 8 9 = 3; die(0, 9) = 0; years(3, 1) = 1; drawn(1, 0) = 0; "
                        + "drawn(2, 0) = 4",
                Edges.under("dares 10;dares 6 if cat = 1") + """
                row 3 0 9 4 8 9 = 2
                years(3, 1) = 1; drawn(0, 0) = -1; drawn(1, 0) = 4
                years(3, 2) = 2; drawn(1, 0) = 0
                """,
                // nine deaths at most of a cat, the lowest life next; it earns behind its death
                Edges.under("dares 10") + """
                cat(8) = 0
                years(7, 1) = 1; drawn(0, 0) = 0; drawn(0, 1) = 7; drawn(0, 2) = 1
                years(7, 8) = 8; drawn(0, 0) = 7; drawn(0, 1) = 0; drawn(0, 2) = 36
                years(7, 9) = 9; drawn(0, 0) = -1; drawn(0, 1) = 0; drawn(0, 2) = 36
                years(7, 60) = 9; drawn(0, 2) = 36
                """,
                // the year, the gold, the ship on paper are those of then
                Edges.under("dares 0;dares 10 if year = 2;earns year") + "cat(3) = 0; years(0, 2) = 0; drawn(0, 2) = 1; "
                        + "years(0, 3) = 1; drawn(0, 2) = 3; years(0, 4) = 1",
                Edges.under("dares 0;earns gold + 1") + "cat(3) = 0; years(0, 6) = 0; drawn(0, 2) = 63; years(0, 7) = 0; "
                        + "drawn(0, 2) = 127; years(0, 8) = 0; drawn(0, 2) = 226",
                Edges.under("dares 0;earns 99") + "cat(3) = 0; 50 x pass() = 50; years(0, 50) = 0; drawn(0, 2) = 9900; "
                        + "years(0, 51) = 0; drawn(0, 2) = 9999; years(0, 60) = 0; drawn(0, 2) = 9999");
    }

    private static void rows(Edges edges) {
        edges.edge(HERE + ", promise 9", """
                A ROW: the TAPE's bytes by threes: a LIFE it is AT, how many others it has YET (the lowest ones, 0 .. 8), an EAR: a CAT;
                """, """
                row 0 0 0 8 8 9 4 1 5 0 1 5 4 5 5 8 7 1 = 6
                mice() = 0
                of(0, 0) = 0; of(0, 1) = 0; of(0, 2) = 0; of(0, 5) = 8
                of(1, 0) = 8; of(1, 1) = 255; of(1, 2) = 9; of(1, 5) = 0
                of(2, 1) = 1
                of(3, 1) = 2
                of(4, 1) = 47               # 0 to 3, and 5: not the 4 it is at
                of(5, 1) = 127
                of(5, 3) = 0; of(5, 4) = -1
                """);
        edges.edge(HERE + ", promises 9, 10", "one that can't be, one within which the TAPE ends, one for which there is no room is a MOUSE: nobody.", """
                row 9 0 0 = 0; mice() = 1
                row 0 9 0 = 0; mice() = 1
                row 0 0 10 = 0; mice() = 1
                row 255 255 255 = 0; mice() = 1
                row 128 0 0 0 128 0 0 0 128 = 0; mice() = 3
                row 8 8 9 = 1; mice() = 0
                row 3 = 0; mice() = 1
                row 3 3 = 0; mice() = 1
                row 3 3 3 3 = 1; mice() = 1
                row 3 3 3 3 3 = 1; mice() = 1
                row 9 9 9 4 4 4 9 9 = 1; mice() = 2     # those behind a mouse come all the same
                count(0) = 4
                row 1 1 1 2 2 2 3 3 3 9 9 9 4 = 2; mice() = 3
                count(0) = 6
                of(5, 0) = 2
                row 1 1 1 = 0; mice() = 1
                count(0) = 6
                """, "20 x feed(0, 0, 0, 0, 0) = 400; row() = 6; mice() = 128; count(6) = 0",
                "20 x feed(-1, -1, -1, -1, -1) = 400; row() = 0; mice() = 134; count(0) = 0");
    }

    private static void images(Edges edges) {
        String kept = """
                law "earns 10 + life" = 0
                law "earns 20 + life" = 1
                force(1) = -1
                cat(2) = 0; row 4 0 3 = 1
                ship(5) = 0
                seen(2) = 1
                terms(1, 4) = 1; terms(2, 6) = 0
                sign(0, 0) = 1
                pass() = 1
                image(0) = 0
                """;
        String asItWas = """
                of(0, 0) = 2; of(0, 1) = 507; of(0, 2) = 9; of(0, 3) = 22; of(0, 4) = 0
                of(1, 0) = 4; of(1, 1) = 0; of(1, 2) = 3; of(1, 3) = 24; of(1, 4) = -1
                count(0) = 2; count(1) = 2; count(2) = 1; count(3) = 1; count(4) = 2; count(12) = 1
                count(13) = 1; count(14) = 4; count(15) = 6; count(16) = 46
                at(0, 0) = 5; rich(1) = 46; rich(2) = -1; canBe(0) = 4
                """;
        String changed = """
                die(0, 3) = 7; die(1, 9) = 0; clip(0, 1) = 9; pass() = 2
                cat(7) = 2; ship(6) = 1; ship(7) = 2; sign(2, 1) = 1
                law "earns 30" = 2
                force(0) = 1
                forget() = 1; seen(1) = 1; seen(2) = 2
                terms(0, 99) = 2; terms(1, 0) = 4; terms(2, 0) = 6
                """;
        edges.edge(HERE + ", promises 37, 38", """
                IMAGES 0, 1 keep all but the TAPE, FAULT, MICE, where ORDERS stopped, what can be undone (nothing, behind back()), the latest YEARS;
                """, kept + changed + "back(0) = 0\n" + asItWas + "count(5) = 0; undo() refused -3\n",
                kept + "count(5) = 2; undo() = 3; undo() = 0; undo() refused -3; back(0) = 0\n" + asItWas,
                // what they don't keep goes on
                "cat(2) = 0; image(0) = 0; row 3; law 'bars bars'; orders 'pass;pass;clip 0 as 9'; years(0, 1); law 'bars bars'; "
                        + "tape 'pass times 3'\n"
                        + "back(0) = 0; count(6) = 12; fault() = 5; mice() = 1; stopped() = 2; drawn(0, 2) = 3; orders() = 3",
                "cat(2) = 0; pass() = 1; image(0) = 0; count(5) = 1; undo() = 3; image(1) = 0; back(0) = 0; count(5) = 0; "
                        + "undo() refused -3; back(1) = 0; count(13) = 0");
        edges.edge(HERE + ", promise 38", "BACK to one all that it keeps is as it was then (IMAGES stay).",
                kept + changed + "image(1) = 0; back(0) = 0\n" + asItWas + changed + "back(0) = 0\n" + asItWas,
                kept + changed + "image(1) = 0; back(0) = 0; back(1) = 0; of(0, 0) = 3; count(4) = 3; count(12) = 0; "
                        + "count(13) = 99; of(2, 4) = 1; count(3) = 2; rich(2) = 60",
                "image(0) = 0; cat(2) = 0; ship(3) = 0; back(0) = 0; count(0) = 0; count(2) = 0; of(0, 0) none; at(0, 0) none",
                // what stands under the same number since does not come between
                "image(0) = 0; ship(5) = 0; cat(2) = 0; law 'earns 7' = 0; seen(3) = 1; image(1) = 0; back(0) = 0\n"
                        + "ship(6) = 0; cat(8) = 0; law 'earns 9' = 0; seen(4) = 1; clip(0, 1) = 9; pass() = 1; die(0, 0) = 7; "
                                + "sign(0, 0) = 1; back(1) = 0\n"
                        + "at(0, 0) = 5; of(0, 0) = 2; of(0, 1) = 507; of(0, 2) = 9; of(0, 3) = 0; of(0, 4) = -1; rich(0) = 7; "
                                + "canBe(0) = 8; count(13) = 0",
                "cat(1) = 0; image(0) = 0; cat(2) = 1; image(0) = 0; cat(3) = 2; back(0) = 0; count(0) = 2; image(1) = 0; "
                        + "back(1) = 0; count(0) = 2");
    }

    /** Six cats, three ships, eight sights, six laws: the last of each is kept as the first is. */
    private static void fullImages(Edges edges) {
        String full = """
                law "earns 10" = 0; law "earns 11" = 1; law "earns 12" = 2; law "earns 13" = 3; law "earns 14" = 4; law "earns 15" = 5
                force(5) = -1
                cat(3) = 0; cat(4) = 1; cat(5) = 2; cat(6) = 3; cat(7) = 4; cat(8) = 5
                ship(1) = 0; ship(2) = 1; ship(4) = 2
                7 x seen(8) = 7; seen(7) = 8
                terms(0, 5) = 0; terms(1, 6) = 1; terms(2, 7) = 0
                clip(5, 4) = 9; clip(0, 2) = 9; sign(5, 2) = 1; sign(0, 1) = 1; pass() = 6
                image(0) = 0
                """;
        String changed = """
                die(5, 0) = 7; die(0, 8) = 7; clip(5, 5) = 4; clip(0, 6) = 2; sign(5, 0) = 1; sign(0, 2) = 1; pass() = 7
                terms(1, 0) = 6; terms(2, 0) = 7; force(0) = 5; forget() = 8; 7 x seen(8) = 7; seen(9) = 8
                """;
        String asItWas = """
                of(5, 0) = 8; of(5, 1) = 255; of(5, 2) = 4; of(5, 3) = 15; of(5, 4) = 2; of(5, 6) = 15
                of(0, 0) = 3; of(0, 1) = 503; of(0, 2) = 2; of(0, 3) = 15; of(0, 4) = 1
                at(0, 0) = 1; at(1, 0) = 2; at(2, 0) = 4; at(2, 1) = 32; at(1, 1) = 1
                count(0) = 6; count(2) = 3; count(3) = 8; count(4) = 6; count(12) = 5; count(13) = 6; count(14) = 6; count(15) = 7
                rich(0) = 60; rich(5) = 90
                canBe(0) = 0; explained(5) = 2
                """;
        edges.edge(HERE + ", promise 38", "BACK to one all that it keeps is as it was then (IMAGES stay).",
                full + asItWas + changed + "back(0) = 0\n" + asItWas,
                // the same numbers by others in between
                "image(1) = 0\n" + full + "back(1) = 0\n" + """
                6 x law "bars" = 5
                6 x cat(0) = 5
                3 x ship(511) = 2
                8 x seen(9) = 8
                clip(5, 8) = 9; sign(4, 2) = 1; die(5, 8) = 7; pass() = 1
                back(0) = 0
                """ + asItWas,
                full + changed + "image(1) = 0; back(0) = 0; back(1) = 0; of(5, 0) = 0; of(5, 2) = 5; of(5, 3) = 30; of(5, 4) = 0; "
                        + "count(12) = 0; explained(5) = -1");
    }
}
