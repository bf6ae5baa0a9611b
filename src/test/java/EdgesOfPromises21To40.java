/** Promises 21 to 40: what is told on paper, years by draws, images, counts. */
final class EdgesOfPromises21To40 {
    private static final String PORT = Edges.PORT;
    private static final String LEAST = Edges.LEAST;
    private static final String MOST = Edges.MOST;

    static void tell(Edges edges) {
        had(edges);
        next(edges);
        likely(edges);
        seen(edges);
        canBe(edges);
        look(edges);
        explained(edges);
        complete(edges);
        safe(edges);
        fraudsAndUnused(edges);
        passing(edges);
        rich(edges);
        years(edges);
        drawn(edges);
        images(edges);
        count(edges);
        status(edges);
    }

    private static void had(Edges edges) {
        edges.edge("Promise 21", "HAD in n YEARS.",
                PORT + "had(0, 0) tells 0; had(0, 1) tells 3000000; had(0, 9) tells 27000000; had(1, 1) tells 8000000",
                // 8 + 8 * .9 + 11 * .1 (life 8 next), 6 + 6 * .7 + 4 * .3 (life 1 next)
                PORT + "had(1, 2) tells 16300000; had(3, 1) tells 6000000; had(3, 2) tells 11400000");
        edges.edge("Promise 21", "NONE (GONE, too).",
                PORT + "had(0, -1) none; had(0, 10) none; had(4, 1) none; had(-1, 1) none; had(2, 0) none; had(2, 9) none",
                PORT + "had(" + LEAST + ", 1) none; had(" + MOST + ", 1) none; had(0, " + LEAST + ") none; "
                        + "had(0, " + MOST + ") none");
    }

    private static void next(Edges edges) {
        edges.edge("Promise 22", "NEXT, for n YEARS 0 .. 9 from then on.",
                PORT + "next(0, 0) tells 1; next(0, 1) tells 8; next(1, 0) tells 0; next(3, 0) tells 0; next(3, 9) tells 1",
                "cat(8) = 0; next(0, 0) = 0; next(0, 1) = 7; next(0, 9) = 7");
        edges.edge("Promise 22", "NONE (none YET; GONE, too).",
                PORT + "next(0, -1) none; next(0, 10) none; next(4, 1) none; next(-1, 1) none; next(2, 0) none; next(2, 9) none",
                PORT + "next(" + LEAST + ", 1) none; next(" + MOST + ", 1) none; next(0, " + LEAST + ") none; "
                        + "next(0, " + MOST + ") none",
                "row 4 1 9 = 1; next(0, 3) = 0; die(0, 0) = 0; next(0, 3) none; next(0, 0) none; die(0, 9) = 0; next(0, 3) none");
    }

    private static void likely(Edges edges) {
        edges.edge("Promise 23", "LIKELY behind n YEARS 0 .. 60 (0 of one that is GONE).", PORT + """
                likely(0, 0) tells 1000000000000; likely(0, 60) tells 1000000000000
                likely(2, 0) tells 0; likely(2, 1) tells 0; likely(2, 60) tells 0
                likely(3, 2) tells 1000000000000
                """, "row 4 0 9 = 1; likely(0, 0) = 1000000000000; likely(0, 1) = 900000000000; likely(0, 2) = 810000000000; die(0, 9) = 0; likely(0, 0) = 0");
        edges.edge("Promise 23", "NONE.",
                PORT + "likely(0, -1) none; likely(0, 61) none; likely(4, 1) none; likely(-1, 1) none; likely(2, 61) none; "
                        + "likely(2, -1) none",
                PORT + "likely(" + LEAST + ", 1) none; likely(" + MOST + ", 1) none; likely(0, " + LEAST + ") none; "
                        + "likely(0, " + MOST + ") none");
    }

    private static void seen(Edges edges) {
        edges.edge("Promise 24", "SEEN: how often there was.",
                "seen(0) = 1; seen(9) = 2; seen(0) = 3; seen(4) = 4; status() = 0; count(3) = 4",
                PORT + "6 x seen(3) = 8; count(5) = 6");
        edges.edge("Promise 24", "-1; -5.",
                PORT + "seen(-1) refused -1; seen(10) refused -1; seen(" + LEAST + ") refused -1; seen(" + MOST + ") refused -1",
                PORT + "6 x seen(3) = 8; seen(0) refused -5; seen(9) refused -5; seen(10) refused -1; seen(-1) refused -1; "
                        + "count(3) = 8");
        edges.edge("Promise 25", "SEEN is nothing then: how often there was.", """
                forget() tells 0
                8 x seen(3) = 8
                forget() = 8
                count(3) = 0
                forget() tells 0
                8 x seen(4) = 8
                """, PORT + "forget() = 2; canBe(0) = 511; explained(0) = 0; status() = -6");
    }

    private static void canBe(Edges edges) {
        edges.edge("Promise 26", "IT CAN BE, as bits.", PORT + "canBe(0) tells 292; canBe(2) tells 292; canBe(3) tells 292",
                "cat(8) = 0; canBe(0) = 511; seen(8) = 1; canBe(0) = 256; seen(0) = 2; canBe(0) = 0",
                "cat(8) = 0; seen(0) = 1; canBe(0) = 1");
        edges.edge("Promise 26", "NONE (no such CAT).", "canBe(0) none",
                PORT + "canBe(4) none; canBe(-1) none; canBe(6) none; canBe(" + LEAST + ") none; canBe(" + MOST + ") none");
    }

    private static void look(Edges edges) {
        edges.edge("Promise 27", "To LOOK: in how many YEARS (what 0), how many LIVES are left at most (1).",
                PORT + "look(0, 0) tells 0; look(0, 1) tells 3; look(2, 0) tells 0; look(2, 1) tells 3",
                Edges.under("shows 1;shows life if year = 9") + "cat(0) = 0; look(0, 0) = 9; look(0, 1) = 1");
        edges.edge("Promise 27", "NONE (none can be).", "look(0, 0) none; look(0, 1) none",
                PORT + "look(0, -1) none; look(0, 2) none; look(4, 0) none; look(-1, 1) none",
                PORT + "look(" + LEAST + ", 0) none; look(" + MOST + ", 1) none; look(0, " + LEAST + ") none; "
                        + "look(0, " + MOST + ") none",
                PORT + "seen(9) = 3; canBe(0) = 0; look(0, 0) none; look(0, 1) none; forget() = 3; look(0, 0) = 0");
    }

    private static void explained(Edges edges) {
        edges.edge("Promise 28", "EXPLAINED by how many LIVES (nothing SEEN: 0).",
                "cat(3) = 0; explained(0) = 0; seen(3) = 1; explained(0) = 1; seen(4) = 2; explained(0) = 2; forget() = 2; "
                        + "explained(0) = 0",
                PORT + "forget() = 2; explained(0) tells 0; seen(2) = 1; explained(0) tells 1; explained(1) tells -1");
        edges.edge("Promise 28", "NONE (it can't be; GONE).",
                "explained(0) none; cat(3) = 0; seen(4) = 1; explained(0) none; forget() = 1; explained(0) = 0; explained(1) none; "
                        + "explained(-1) none",
                PORT + "explained(2) none; forget() = 2; explained(2) none; explained(4) none; explained(" + LEAST + ") none; "
                        + "explained(" + MOST + ") none");
    }

    private static void complete(Edges edges) {
        edges.edge("Promise 29", "COMPLETE: how many CATS (what 0), which, as bits (1).",
                "ship(0) = 0; complete(0, 0) = 0; complete(0, 1) = 0",
                "ship(3) = 0; cat(4) = 0; cat(1) = 1; cat(0) = 2; complete(0, 0) tells 2; complete(0, 1) tells 6",
                "ship(63) = 0; cat(0) = 0; cat(1) = 1; cat(2) = 2; cat(3) = 3; cat(4) = 4; cat(5) = 5; complete(0, 0) = 6; "
                        + "complete(0, 1) = 63");
        edges.edge("Promise 29", "NONE (it can't be).", "complete(0, 0) none; complete(0, 1) none",
                PORT + "complete(0, 0) none; complete(0, 1) none; complete(1, 0) none; complete(2, 0) none; complete(-1, 0) none",
                "ship(0) = 0; complete(0, -1) none; complete(0, 2) none; complete(0, " + LEAST + ") none; "
                        + "complete(0, " + MOST + ") none; complete(" + LEAST + ", 0) none; complete(" + MOST + ", 1) none");
    }

    private static void safe(Edges edges) {
        edges.edge("Promise 30", "SAFE.", PORT + "safe(0) tells 1000000000000; safe(1) tells 1000000000000",
                PORT + "sign(1, 0) = 2; safe(0) = 900000000000; sign(3, 0) = 3; safe(0) = 630000000000");
        edges.edge("Promise 30", "NONE.", "safe(0) none",
                PORT + "safe(2) none; safe(-1) none; safe(3) none; safe(" + LEAST + ") none; safe(" + MOST + ") none");
    }

    private static void fraudsAndUnused(Edges edges) {
        edges.edge("Promise 31", "FRAUDS, as bits.", PORT + "frauds() tells 10",
                "frauds() = 0; row 0 0 1 1 0 1 2 0 1 3 0 1 4 0 1 5 0 1 = 6; frauds() = 61",
                "6 x cat(8) = 5; frauds() = 0; clip(5, 0) = 9; frauds() = 32; clip(5, 8) = 0; frauds() = 0");
        edges.edge("Promise 33", "UNUSED, as bits.", PORT + "unused() tells 470",
                "unused() = 511; row 0 0 9 1 0 9 2 0 9 3 0 9 7 0 9 8 0 9 = 6; unused() = 112");
    }

    private static void passing(Edges edges) {
        edges.edge("Promise 32", "PASSING: how many twos (i NONE), the i-th as ten times the lower and the higher one, rising.",
                Edges.under("shows life % 3") + """
                cat(0) = 0; cat(3) = 1; cat(1) = 2; cat(4) = 3; cat(6) = 4; cat(0) = 5
                passing(-1) tells 6
                passing(0) tells 1; passing(1) tells 4; passing(2) tells 14; passing(3) tells 15; passing(4) tells 23; passing(5) tells 45
                """, PORT + "passing(-1) tells 1; passing(0) tells 3; cat(3) = 4; passing(-1) tells 2; passing(0) tells 3; passing(1) tells 4");
        edges.edge("Promise 32", "NONE.", "passing(0) none; passing(-2) none",
                Edges.under("shows 1") + "cat(0) = 0; cat(1) = 1; passing(-1) = 1; passing(0) = 1; passing(1) none; "
                        + "passing(-2) none",
                PORT + "passing(1) none; passing(-2) none; passing(" + LEAST + ") none; passing(" + MOST + ") none");
    }

    private static void rich(Edges edges) {
        edges.edge("Promise 34", "RICH.",
                PORT + "rich(-1) tells 11; rich(0) tells 17; rich(1) tells 27; count(12) = 0; of(0, 6) = 3");
        edges.edge("Promise 34", "NONE (no such LAW).", "rich(0) none; rich(-2) none; rich(-1) = 0",
                PORT + "rich(2) none; rich(6) none; rich(-2) none; rich(" + LEAST + ") none; rich(" + MOST + ") none",
                "6 x law 'bars' = 5; rich(5) = 0; rich(6) none");
    }

    private static void years(Edges edges) {
        edges.edge("Promise 35", "YEARS, kept as the latest: how many deaths there were.", """
                cat(3) = 0; terms(1, 10) = 1
                years(0, 1) = 1; drawn(0, 0) = 0; status() = 0
                years(0, 2) = 2; drawn(0, 0) = 1
                years(1000000, 60) = 9; drawn(0, 0) = -1
                terms(1, 0) = 10
                years(1, 60) = 0; drawn(0, 0) = 3; drawn(0, 2) = 240
                """,
                // nothing else is changed by them
                PORT + "years(77, 5); count(5) = 6; count(13) = 2; of(0, 3) = 6; undo() = 3",
                "row 4 0 9 = 1; die(0, 9) = 0; years(0, 60) = 0; drawn(0, 0) = -1; drawn(0, 1) = 0; drawn(0, 2) = 0");
        edges.edge("Promise 35", "-1; -3 there are no CATS.",
                PORT + "years(-1, 1) refused -1; years(1000001, 1) refused -1; years(0, 0) refused -1; years(0, 61) refused -1",
                PORT + "years(" + LEAST + ", 1) refused -1; years(" + MOST + ", 1) refused -1; years(0, " + LEAST + ") refused -1; "
                        + "years(0, " + MOST + ") refused -1",
                "years(0, 1) refused -3; years(1000000, 60) refused -3; years(-1, 1) refused -1; years(0, 0) refused -1; "
                        + "cat(0) = 0; years(0, 1) = 0",
                "image(0) = 0; cat(3) = 0; years(0, 1) = 0; back(0) = 0; years(0, 1) refused -3; drawn(0, 0) = 3");
    }

    private static void drawn(Edges edges) {
        edges.edge("Promise 36", """
                Behind the latest YEARS of a CAT that there was then (whether it is there now or not) the LIFE (what 0; NONE: GONE), how many it has YET (1),
                GOLD (2).
                """, """
                image(0) = 0
                cat(3) = 0; row 5 0 9 = 1; terms(1, 10) = 1
                pass() = 1
                years(0, 1) = 2
                drawn(0, 0) tells 0; drawn(0, 1) tells 7; drawn(0, 2) tells 5
                drawn(1, 0) tells -1; drawn(1, 1) tells 0; drawn(1, 2) tells 6
                cat(8) = 2
                drawn(2, 0) none
                die(0, 8) = 7; pass() = 2
                drawn(0, 0) tells 0; drawn(0, 2) tells 5
                back(0) = 0
                count(0) = 0
                drawn(0, 0) tells 0; drawn(0, 1) tells 7; drawn(0, 2) tells 5
                drawn(1, 2) tells 6
                cat(1) = 0; terms(1, 0) = 1
                years(0, 1) = 0
                drawn(0, 0) tells 1; drawn(1, 2) none
                """, "6 x cat(8) = 5; terms(1, 0) = 1; years(0, 60) = 0; drawn(5, 0) = 8; drawn(5, 1) = 8; drawn(5, 2) = 540");
        edges.edge("Promise 36", "NONE.", "drawn(0, 0) none; cat(0) = 0; drawn(0, 0) none; drawn(0, 2) none",
                PORT + "drawn(0, -1) none; drawn(0, 3) none; drawn(4, 0) none; drawn(-1, 0) none; drawn(6, 2) none",
                PORT + "drawn(" + LEAST + ", 0) none; drawn(" + MOST + ", 1) none; drawn(0, " + LEAST + ") none; "
                        + "drawn(0, " + MOST + ") none");
    }

    private static void images(Edges edges) {
        edges.edge("Promise 37", "IMAGE k is kept: 0; -1.",
                "image(0) = 0; status() = 0; image(1) = 0; image(0) = 0; back(0) = 0; back(1) = 0",
                PORT + "image(-1) refused -1; image(2) refused -1; image(" + LEAST + ") refused -1; image(" + MOST + ") refused -1",
                PORT
                        + "image(0) = 0; count(5) = 6; count(6) = 12; fault() = 5; stopped() = 1; mice() = 2; undo() = 3; "
                        + "back(0) = 0; count(13) = 2");
        edges.edge("Promise 38", "BACK to IMAGE k: 0.", PORT + """
                back(0) = 0
                status() = 0
                count(0) = 4; count(1) = 4; count(13) = 0; count(15) = 0; count(16) = 0; of(1, 0) = 2; of(0, 4) = -1
                count(5) = 0; count(6) = 12
                back(1) = 0
                count(1) = 4; count(13) = 1; count(15) = 4; of(1, 0) = 5; of(1, 2) = 3; of(0, 4) = 0; of(2, 0) = 4
                """);
        edges.edge("Promise 38", "-1; -2 it was not kept.",
                "back(0) refused -2; back(1) refused -2; back(2) refused -1; back(-1) refused -1; image(1) = 0; back(0) refused -2; back(1) = 0",
                "image(0) = 0; cat(3) = 0; pass() = 1; back(1) refused -2; back(0) = 0",
                PORT + "back(-1) refused -1; back(2) refused -1; back(" + LEAST + ") refused -1; back(" + MOST + ") refused -1");
    }

    private static void count(Edges edges) {
        edges.edge("Promise 39", """
                0 CATS, 1 how many are not GONE, 2 SHIPS, 3 SEEN, 4 LAWS, 5 how many can be undone, 6 bytes of the TAPE, 7 .. 11 how many calls were REFUSED
                by -1, -2, -3, -5, -6 (IMAGES do not keep that), 12 the LAW in FORCE, 13 .. 15 TERMS 0 .. 2, 16 all GOLD.
                """, PORT + """
                count(0) tells 4; count(1) tells 3; count(2) tells 2; count(3) tells 2; count(4) tells 2; count(5) tells 6; count(6) tells 12
                count(7) tells 0; count(8) tells 0; count(9) tells 1; count(10) tells 0; count(11) tells 1
                """, PORT + "count(12) = 0; count(13) = 2; count(14) = 1; count(15) = 4; count(16) = 38",
                """
                image(0) = 0
                2 x cat(9) = -1; 3 x force(0) = -2; 4 x undo() = -3; 5 x row() = -6
                3 x ship(0) = 2; 6 x ship(0) = -5
                count(7) = 2; count(8) = 3; count(9) = 4; count(10) = 6; count(11) = 5
                back(0) = 0
                count(7) = 2; count(8) = 3; count(9) = 4; count(10) = 6; count(11) = 5
                count(2) = 0
                """,
                // those that answer NONE are not counted
                "of(0, 0) none; feed(0, 0, 0, 0, 0) = 20; end(21) none; canBe(0) none; rich(0) none; count(17) none; count(7) = 0; "
                        + "force(-1) = -1; count(7) = 0");
        edges.edge("Promise 39", "NONE for others.",
                PORT + "count(-1) none; count(17) none; count(" + LEAST + ") none; count(" + MOST + ") none",
                "count(-1) none; count(17) none; count(16) = 0");
    }

    private static void status(Edges edges) {
        edges.edge("Promise 40", """
                What the latest call of cat, ship, terms, row, law, orders, force, sign, die, clip, pass, undo, seen, years, image, back was REFUSED by;
                0 if it was not, or ahead of any.
                """, """
                status() tells 0
                cat(9) refused -1; cat(0) = 0; status() tells 0
                ship(-1) refused -1; ship(0) = 0; status() tells 0
                terms(3, 0) refused -1; terms(0, 0) = 0; status() tells 0
                row() refused -6; row 1 1 1 = 1; status() tells 0
                """, """
                law() refused -6; law "bars if 1=2" = 0; status() tells 0
                orders() refused -6; orders "pass" = 1; status() tells 0
                force(1) refused -2; force(0) = -1; status() tells 0
                force(1) refused -2; force(-1) = 0; status() tells 0
                """, """
                cat(0) = 0; ship(0) = 0
                sign(1, 0) refused -2; sign(0, 0) = 1; status() tells 0
                die(0, 0) refused -3; die(0, 1) = 7; status() tells 0
                clip(0, 9) refused -1; clip(0, 8) = 9; status() tells 0
                terms(0, 999) = 0
                pass() refused -3; terms(0, 0) = 999; status() tells 0; undo() refused -3; pass() = 1; status() tells 0
                sign(0, 0) refused -3; undo() = 3; status() tells 0
                """, """
                seen(10) refused -1; seen(9) = 1; status() tells 0
                years(0, 1) refused -3; cat(0) = 0; years(0, 0) refused -1; years(0, 1) = 0; status() tells 0
                image(2) refused -1; image(0) = 0; status() tells 0
                back(1) refused -2; back(0) = 0; status() tells 0
                """,
                // the other calls leave it alone, whatever they answer
                PORT + """
                force(9) refused -2
                forget() = 2; status() tells -2; feed(1, 2, 3, 4, 5) = 32; end(99) = -1; of(7, 7) = -1; at(7, 7) = -1; mice() = 2; fault() = 5; stopped() = 1
                status() tells -2
                had(0, 1) = 3000000; next(0, 0) = 1; likely(0, 0) = 1000000000000; canBe(0) = 511; look(0, 0) = 0; explained(0) = 0; complete(0, 0) = -1; safe(0) = 1000000000000
                frauds() = 10; passing(-1) = 1; unused() = 470; rich(3) = -1; drawn(9, 0) = -1; count(99) = -1
                status() tells -2
                count(7) = 0; count(8) = 1
                """);
    }
}
