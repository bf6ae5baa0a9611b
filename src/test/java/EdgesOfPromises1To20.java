/** Promises 1 to 20: what stands, the tape and what is read from it, what is done and undone. */
final class EdgesOfPromises1To20 {
    private static final String PORT = Edges.PORT;
    private static final String LEAST = Edges.LEAST;
    private static final String MOST = Edges.MOST;

    static void tell(Edges edges) {
        calls(edges);
        newObject(edges);
        cat(edges);
        of(edges);
        ship(edges);
        at(edges);
        terms(edges);
        feed(edges);
        end(edges);
        row(edges);
        law(edges);
        orders(edges);
        fault(edges);
        stopped(edges);
        force(edges);
        sign(edges);
        die(edges);
        clip(edges);
        pass(edges);
        undo(edges);
        whatEndsUndoing(edges);
    }

    private static void calls(Edges edges) {
        edges.edge("What it is, promise 1",
                "An object is used for at most 512 calls after it has been made; what later calls answer is free.",
                "511 x pass() = 511; pass() = 512", "510 x cat(9) = -1; cat(8) = 0; of(0, 0) = 8",
                "511 x row() = -6; count(11) = 511");
    }

    private static void newObject(Edges edges) {
        edges.edge("Promise 1", "An empty port.", """
                count(0) = 0; count(1) = 0; count(2) = 0; count(3) = 0; count(4) = 0; count(5) = 0; count(6) = 0
                count(7) = 0; count(8) = 0; count(9) = 0; count(10) = 0; count(11) = 0
                count(12) = -1; count(13) = 0; count(14) = 1; count(15) = 0; count(16) = 0
                status() = 0; mice() = 0; fault() = -1; stopped() = -1
                of(0, 0) none; at(0, 0) none; drawn(0, 0) none
                frauds() = 0; unused() = 511; passing(-1) = 0; rich(-1) = 0; forget() = 0
                """, "undo() refused -3; back(0) refused -2; back(1) refused -2; force(0) refused -2; row() refused -6; years(0, 1) refused -3");
    }

    private static void cat(Edges edges) {
        edges.edge("Promise 2", "A CAT AT a LIFE, all others YET: the number.", """
                cat(0) = 0; of(0, 0) = 0; of(0, 1) = 510
                cat(8) = 1; of(1, 0) = 8; of(1, 1) = 255
                cat(8) = 2; cat(8) = 3; cat(8) = 4
                cat(4) = 5; of(5, 0) = 4; of(5, 1) = 495; of(5, 2) = 9; of(5, 3) = 0; of(5, 4) = -1; of(5, 5) = 0
                """, PORT + "cat(7) = 4; status() = 0; of(4, 1) = 383; of(3, 0) = 3");
        edges.edge("Promise 2", "-1; -5.",
                PORT + "cat(-1) refused -1; cat(9) refused -1; cat(" + LEAST + ") refused -1; cat(" + MOST + ") refused -1",
                PORT + "cat(0) = 4; cat(0) = 5; cat(0) refused -5; cat(8) refused -5; cat(9) refused -1; cat(-1) refused -1; "
                        + "count(0) = 6",
                PORT + "cat(1) = 4; cat(1) = 5; pass() = 3; cat(1) refused -5; undo() = 3");
    }

    private static void of(Edges edges) {
        edges.edge("Promise 3", """
                Of a CAT the LIFE (what 0; NONE: GONE), LIVES YET as bits (1), EAR (2), GOLD (3), the SHIP (4; NONE), SPENT (5), what it EARNS (6),
                DARES (7), SHOWS (8).
                """, PORT + """
                of(0, 0) tells 0; of(0, 1) tells 510; of(0, 2) tells 9; of(0, 3) tells 6; of(0, 4) tells 0; of(0, 5) tells 0
                of(0, 6) tells 3; of(0, 7) tells 0; of(0, 8) tells 2
                """, PORT + """
                of(1, 0) = 5; of(1, 1) = 475; of(1, 2) = 3; of(1, 3) = 13; of(1, 4) = -1; of(1, 5) = 1
                of(1, 6) = 8; of(1, 7) = 1; of(1, 8) = 1
                of(2, 0) = -1; of(2, 1) = 0; of(2, 2) = 9; of(2, 3) = 7; of(2, 4) = -1; of(2, 5) = 9
                """);
        edges.edge("Promise 3", "NONE (6 .. 8: GONE, too).", PORT + """
                of(0, -1) none; of(0, 9) none; of(4, 0) none; of(-1, 0) none
                """, PORT + "of(2, 6) none; of(2, 7) none; of(2, 8) none; of(2, 9) none; of(6, 8) none",
                PORT + "of(" + LEAST + ", 0) none; of(" + MOST + ", 0) none; of(0, " + LEAST + ") none; of(0, " + MOST + ") none");
    }

    private static void ship(Edges edges) {
        edges.edge("Promise 4", "A SHIP that NEEDS LIVES, as bits: its number.",
                "ship(0) = 0; ship(511) = 1; ship(256) = 2; at(0, 0) = 0; at(1, 0) = 511; at(2, 0) = 256",
                PORT + "ship(1) = 2; status() = 0; count(2) = 3; at(2, 2) = 1; count(5) = 6");
        edges.edge("Promise 4", "-1; -5.",
                PORT + "ship(-1) refused -1; ship(512) refused -1; ship(" + LEAST + ") refused -1; ship(" + MOST + ") refused -1",
                PORT + "ship(0) = 2; ship(0) refused -5; ship(511) refused -5; ship(512) refused -1; ship(-1) refused -1; "
                        + "count(2) = 3");
    }

    private static void at(Edges edges) {
        edges.edge("Promise 5", """
                Of a SHIP NEEDS (what 0), its crew, as bits (1), LIVES it NEEDS that are not aboard (2), from which CATS (not GONE) are BARRED, as bits (3).
                """, PORT + """
                at(0, 0) tells 5; at(0, 1) tells 1; at(0, 2) tells 4; at(0, 3) tells 0
                at(1, 0) tells 129; at(1, 1) tells 0; at(1, 2) tells 129; at(1, 3) tells 2
                """, """
                ship(511) = 0
                6 x cat(8) = 5
                sign(5, 0) = 1; at(0, 1) = 32; at(0, 2) = 255
                sign(0, 0) = 2; sign(1, 0) = 3; sign(2, 0) = 4; sign(3, 0) = 5; sign(4, 0) = 6
                at(0, 1) = 63; at(0, 2) = 255
                die(0, 0) = 7; at(0, 2) = 254
                """, "ship(0) = 0; at(0, 2) = 0; cat(3) = 0; sign(0, 0) = 1; at(0, 2) = 0; at(0, 1) = 1",
                Edges.under("bars") + "ship(0) = 0; at(0, 3) = 0; row 3 0 9 4 0 9 = 2; at(0, 3) = 3; die(0, 9) = 0; at(0, 3) = 2; "
                        + "die(1, 9) = 0; at(0, 3) = 0");
        edges.edge("Promise 5", "NONE.", PORT + "at(0, -1) none; at(0, 4) none; at(2, 0) none; at(-1, 0) none; at(3, 3) none",
                PORT + "at(" + LEAST + ", 0) none; at(" + MOST + ", 1) none; at(0, " + LEAST + ") none; at(1, " + MOST + ") none");
    }

    private static void terms(Edges edges) {
        edges.edge("Promise 6", "A TERM: what it was.", """
                terms(0, 999) = 0; terms(0, 0) = 999; terms(0, 5) = 0; count(13) = 5
                terms(1, 10) = 1; terms(1, 0) = 10; terms(1, 5) = 0; count(14) = 5
                terms(2, 9) = 0; terms(2, 0) = 9; terms(2, 5) = 0; count(15) = 5
                terms(2, 5) = 5; status() = 0
                """);
        edges.edge("Promise 6", "-1.",
                PORT + "terms(0, -1) refused -1; terms(0, 1000) refused -1; terms(1, -1) refused -1; terms(1, 11) refused -1",
                PORT + "terms(2, -1) refused -1; terms(2, 10) refused -1; terms(-1, 0) refused -1; terms(3, 0) refused -1",
                PORT + "terms(" + LEAST + ", 0) refused -1; terms(" + MOST + ", 0) refused -1; terms(0, " + LEAST + ") refused -1; "
                        + "terms(2, " + MOST + ") refused -1");
    }

    private static void feed(Edges edges) {
        edges.edge("Promise 7", "Twenty bytes come behind the TAPE, four of each number, the highest first: how many it has.",
                // 4 2 9 8, 0 3 0 1, 9 7 8 0, 2 2 2 1, 1 1 9 9
                """
                feed(67242248, 196609, 151455744, 33686017, 16845065) = 20
                row() = 6
                mice() = 1
                of(0, 0) = 4; of(0, 1) = 3; of(0, 2) = 9
                of(1, 0) = 8; of(1, 1) = 0; of(1, 2) = 3
                of(2, 0) = 0; of(2, 1) = 2; of(2, 2) = 9
                of(3, 0) = 7; of(3, 1) = 383; of(3, 2) = 0
                of(4, 0) = 2; of(4, 1) = 3; of(4, 2) = 2
                of(5, 0) = 1; of(5, 1) = 1; of(5, 2) = 1
                """,
                // behind what is there: "bars", then "if 1=1" and blanks
                """
                feed(1650553459, 0, 0, 0, 0) = 20
                end(4) = 4
                feed(543778336, 826093856, 538976288, 538976288, 538976288) = 24
                law() = 0
                """,
                // the highest bit is a byte's, not a sign: 128 0 0 0, 255 255 255 255
                "feed(" + LEAST + ", -1, " + MOST + ", 0, 0) = 20; row() = 2; mice() = 5; of(0, 0) = 0; of(1, 0) = 0");
        edges.edge("Promise 7", "NONE, if there would be more than 400.", """
                20 x feed(0, 0, 0, 0, 0) = 400
                feed(1, 1, 1, 1, 1) none
                count(6) = 400
                end(399) = 399
                feed(1, 1, 1, 1, 1) none
                end(381) = 381
                feed(1, 1, 1, 1, 1) none
                count(6) = 381
                end(380) = 380
                feed(1, 1, 1, 1, 1) = 400
                """, PORT + "19 x feed(0, 0, 0, 0, 0) = 392; feed(0, 0, 0, 0, 0) none; status() = -6; count(7) = 0");
    }

    private static void end(Edges edges) {
        edges.edge("Promise 8", "The TAPE has its first n bytes alone: n.", """
                end(0) = 0
                tape "bars if 1=2"
                end(11) = 11
                end(4) = 4
                count(6) = 4
                law() = 0
                count(6) = 0
                """, "tape 'bars'; end(0) = 0; count(6) = 0; row() refused -6", "20 x feed(0, 0, 0, 0, 0) = 400; end(400) = 400; end(399) = 399; count(6) = 399");
        edges.edge("Promise 8", "NONE, if it has not so many, or n is below 0.",
                PORT + "end(13) none; end(-1) none; end(" + LEAST + ") none; end(" + MOST + ") none; count(6) = 12",
                "end(1) none; end(-1) none; end(0) = 0; status() = 0; count(7) = 0",
                "20 x feed(0, 0, 0, 0, 0) = 400; end(401) none; end(3) = 3; end(4) none; count(6) = 3");
    }

    private static void row(Edges edges) {
        edges.edge("Promise 9", "A ROW, the TAPE is empty then: how many CATS came.", """
                row 1 2 3 4 5 6 = 2; count(6) = 0; count(0) = 2; status() = 0
                row 1 2 = 0; count(6) = 0; count(0) = 2; status() = 0
                row 1 2 3 = 1
                row 4 4 4 4 4 4 4 4 4 4 4 4 = 3
                row 1 2 3 = 0; count(6) = 0; status() = 0
                """);
        edges.edge("Promise 9", "-6 the TAPE is empty.", PORT + "end(0) = 0; row() refused -6; row() refused -6; count(0) = 4",
                "row() refused -6", "row 1 2 3 = 1; row() refused -6; law 'bars' = 0; row() refused -6");
        edges.edge("Promise 10", "How many MICE the latest row() had that was not REFUSED (0 ahead of any).", """
                mice() tells 0
                row() refused -6
                mice() tells 0
                row 9 9 9 9 9 9 = 0
                mice() tells 2
                row() refused -6
                mice() tells 2
                row 1 1 1 = 1
                mice() tells 0
                """, "20 x feed(-1, -1, -1, -1, -1) = 400; row() = 0; mice() = 134");
    }

    private static void law(Edges edges) {
        edges.edge("Promise 11", "The TAPE, which is empty then, becomes a LAW: its number.", PORT + """
                end(0) = 0
                law "earns 33" = 2
                count(6) = 0; count(4) = 3; status() = 0; fault() = -1
                rich(2) = 99
                count(12) = 0
                count(5) = 6
                stopped() = 1
                """);
        edges.edge("Promise 11", "-5 (ahead of reading it; the TAPE is empty then, too);", PORT + """
                end(0) = 0
                4 x law "bars" = 5
                fault() = -1
                law "bars bars bars" refused -5
                fault() = -1
                count(6) = 0
                law "earns 5" refused -5
                count(6) = 0; count(4) = 6
                law() refused -5
                law " " refused -5
                """, "6 x law 'bars' = 5; orders 'pass pass' refused -6; law 'bars' refused -5; fault() = 5; orders() refused -6; fault() = 0");
        edges.edge("Promise 11", "-6 (blanks alone: FAULT at the end).", PORT + """
                end(0) = 0
                law() refused -6
                fault() = 0
                law "   " refused -6
                fault() = 3
                law "bars bars" refused -6
                fault() = 5
                law "pass" refused -6
                fault() = 0
                count(4) = 2; count(6) = 0
                """, "law '" + " ".repeat(400) + "' refused -6; fault() = 400; count(6) = 0");
    }

    private static void orders(Edges edges) {
        edges.edge("Promise 12", "ORDERS, the TAPE is empty then: how many were run.", PORT + """
                orders() = 2
                count(6) = 0; count(13) = 4; status() = 0; fault() = -1; stopped() = -1
                orders "pass if 1=2" = 0
                status() = 0; count(6) = 0
                orders "pass times 20;pass times 20 if year < 30" = 26
                count(13) = 30; count(5) = 16
                """);
        edges.edge("Promise 12", "-3 one can't be;", PORT + """
                end(0) = 0
                orders "pass;clip 0 as 9" refused -3
                count(6) = 0; fault() = -1; stopped() = 1; count(13) = 2
                orders "pass times 20;die 2 as 9" refused -3
                count(13) = 2; count(5) = 6
                orders "sign 0 on 0" refused -3
                orders "sign 1 on 1" refused -3     # it is barred
                """);
        edges.edge("Promise 12", "-6 (as for law()).", PORT + """
                end(0) = 0
                orders() refused -6
                fault() = 0; stopped() = -1
                orders "   " refused -6
                fault() = 3; count(6) = 0
                orders "pass;pass;" refused -6
                fault() = 10; count(13) = 2; count(6) = 0
                """, "6 x law 'bars' = 5; orders 'bars' refused -6; orders 'pass' = 1");
    }

    private static void fault(Edges edges) {
        edges.edge("Promise 13", "FAULT of the latest law(), orders() that read a TEXT: its place; NONE without.", """
                fault() tells -1
                law "bars bars" refused -6
                fault() tells 5
                row() refused -6
                row 1 1 1 = 1
                fault() tells 5
                law "bars" = 0
                fault() tells -1
                orders "pass pass pass" refused -6
                fault() tells 5
                orders "clip 0 as 9" refused -3     # it was read
                fault() tells -1
                orders "pass; " refused -6
                fault() tells 6
                5 x law "bars" = 5
                orders "pass pass" refused -6
                law "what" refused -5               # it was not
                fault() tells 5
                orders "pass" = 1
                fault() tells -1
                """);
    }

    private static void stopped(Edges edges) {
        edges.edge("Promise 14", "Which CLAUSE (0 on) of the latest orders() could not be.", """
                cat(0) = 0
                orders "clip 0 as 9;pass" refused -3
                stopped() tells 0
                orders "pass;pass times 3;pass if 1=2;clip 1/0 as 9" refused -3
                stopped() tells 3
                law "bars bars" refused -6
                row 1 1 1 = 1
                stopped() tells 3
                """, "orders '" + "pass;".repeat(11) + "sign 0 on 0' refused -3; stopped() = 11; count(13) = 0");
        edges.edge("Promise 14", "NONE (that was done, or REFUSED by -6; ahead of any).", """
                stopped() tells -1
                orders "die 0 as 9" refused -3
                stopped() tells 0
                orders "pass" = 1
                stopped() tells -1
                orders "die 0 as 9" refused -3
                stopped() tells 0
                orders "die 0 as" refused -6
                stopped() tells -1
                orders "pass;die 0 as 9" refused -3
                stopped() tells 1
                orders() refused -6
                stopped() tells -1
                """);
    }

    private static void force(Edges edges) {
        edges.edge("Promise 15", "A LAW is in FORCE (NONE: none): which was.", """
                force(-1) = -1
                status() = 0
                law "earns 50" = 0
                law "earns 60" = 1
                force(1) = -1; count(12) = 1
                force(1) = 1
                force(0) = 1; count(12) = 0
                force(-1) = 0; count(12) = -1
                force(-1) = -1
                status() = 0; count(7) = 0; count(8) = 0
                """, "6 x law 'bars' = 5; force(5) = -1; force(0) = 5; count(12) = 0");
        edges.edge("Promise 15", "-2.", "force(0) refused -2; force(-2) refused -2",
                PORT + "force(2) refused -2; force(-2) refused -2; force(6) refused -2; force(" + LEAST + ") refused -2; "
                        + "force(" + MOST + ") refused -2; count(12) = 0",
                "6 x law 'bars' = 5; force(6) refused -2; force(5) = -1");
    }

    private static void sign(Edges edges) {
        edges.edge("Promise 16", "To SIGN: how many the crew is then.", """
                6 x cat(3) = 5
                3 x ship(0) = 2
                sign(0, 0) = 1; sign(5, 0) = 2; sign(4, 0) = 3; sign(3, 0) = 4; sign(2, 0) = 5; sign(1, 0) = 6
                sign(5, 2) = 1; at(0, 1) = 31; at(2, 1) = 32
                status() = 0; count(5) = 7
                """);
        edges.edge("Promise 16", "-2; -3.",
                PORT + "sign(4, 0) refused -2; sign(-1, 0) refused -2; sign(0, 2) refused -2; sign(0, -1) refused -2",
                PORT + "sign(2, 2) refused -2; sign(" + LEAST + ", 0) refused -2; sign(0, " + MOST + ") refused -2",
                PORT
                        + "sign(0, 0) refused -3; sign(2, 0) refused -3; sign(2, 1) refused -3; sign(1, 1) refused -3; "
                        + "sign(0, 1) = 1; sign(1, 0) = 1",
                "sign(0, 0) refused -2; cat(0) = 0; sign(0, 0) refused -2; ship(0) = 0; sign(1, 0) refused -2; "
                        + "sign(0, 1) refused -2; sign(0, 0) = 1");
    }

    private static void die(Edges edges) {
        edges.edge("Promise 17", "To DIE (the next LIFE 0 .. 8; 9: none): how many it has YET.", """
                cat(4) = 0
                die(0, 0) = 7; die(0, 8) = 6; die(0, 1) = 5; die(0, 7) = 4; die(0, 2) = 3; die(0, 6) = 2; die(0, 3) = 1; die(0, 5) = 0
                of(0, 0) = 5
                die(0, 9) = 0
                of(0, 0) = -1
                status() = 0; count(5) = 9
                """);
        edges.edge("Promise 17", "-1; -2; -3 (GONE; a LIFE it has not YET; 9, though it has one).",
                PORT + "die(0, -1) refused -1; die(0, 10) refused -1; die(9, 10) refused -1; die(2, 10) refused -1",
                PORT + "die(0, " + LEAST + ") refused -1; die(0, " + MOST + ") refused -1; die(4, 0) refused -2; "
                        + "die(-1, 9) refused -2",
                PORT + "die(" + LEAST + ", 0) refused -2; die(" + MOST + ", 8) refused -2; die(6, 3) refused -2",
                PORT + "die(2, 9) refused -3; die(2, 0) refused -3; die(2, 4) refused -3",
                PORT + "die(0, 0) refused -3; die(0, 9) refused -3; die(1, 2) refused -3; die(1, 5) refused -3; "
                        + "die(3, 2) refused -3; die(3, 9) refused -3",
                "row 4 0 9 = 1; die(0, 0) refused -3; die(0, 4) refused -3; die(0, 8) refused -3; die(0, 9) = 0; "
                        + "die(0, 9) refused -3");
    }

    private static void clip(Edges edges) {
        edges.edge("Promise 18", "To CLIP: the EAR it was.",
                "cat(3) = 0; clip(0, 0) = 9; clip(0, 8) = 0; clip(0, 4) = 8; of(0, 2) = 4; status() = 0; count(5) = 3",
                PORT + "clip(2, 0) = 9; clip(3, 0) = 5; of(2, 2) = 0");
        edges.edge("Promise 18", "-1 (0 .. 8); -2; -3 it is so already.",
                PORT + "clip(0, -1) refused -1; clip(0, 9) refused -1; clip(0, 10) refused -1; clip(9, 9) refused -1",
                PORT + "clip(0, " + LEAST + ") refused -1; clip(0, " + MOST + ") refused -1; clip(4, 0) refused -2; "
                        + "clip(-1, 8) refused -2",
                PORT + "clip(" + LEAST + ", 0) refused -2; clip(" + MOST + ", 8) refused -2; clip(1, 3) refused -3; "
                        + "clip(3, 5) refused -3",
                "row 1 0 0 1 0 8 = 2; clip(0, 0) refused -3; clip(1, 8) refused -3; clip(0, 8) = 0; clip(0, 8) refused -3");
    }

    private static void pass(Edges edges) {
        edges.edge("Promise 19", "A YEAR: its number.",
                "pass() = 1; pass() = 2; status() = 0; terms(0, 998) = 2; pass() = 999; count(13) = 999; count(5) = 1");
        edges.edge("Promise 19", "-3.",
                PORT + "terms(0, 999) = 2; pass() refused -3; pass() refused -3; count(13) = 999; count(16) = 38",
                PORT + "terms(0, 998) = 2; pass() = 999; pass() refused -3; undo() = 3; count(13) = 998; pass() = 999");
    }

    private static void undo(Edges edges) {
        edges.edge("Promise 20", "The latest sign(), die(), clip(), pass() (by ORDERS, too; 16 are kept) is undone: 0 .. 3.", PORT + """
                undo() = 3; count(13) = 1; of(0, 3) = 3; of(2, 3) = 7; count(5) = 5
                undo() = 1; of(2, 0) = 4
                undo() = 1; of(1, 0) = 2; of(1, 1) = 507
                undo() = 2; of(1, 2) = 9
                undo() = 0; of(0, 4) = -1
                undo() = 3; count(13) = 0; count(16) = 0
                count(5) = 0; status() = 0
                undo() refused -3
                """, """
                row 4 0 9 = 1; ship(0) = 0; ship(0) = 1
                sign(0, 1) = 1; sign(0, 0) = 1; die(0, 9) = 0
                undo() = 1; of(0, 0) = 4; of(0, 4) = 0      # its ship, too
                undo() = 0; of(0, 4) = 1
                undo() = 0; of(0, 4) = -1
                """, """
                6 x cat(3) = 5; ship(0) = 0; ship(0) = 1; ship(0) = 2
                sign(5, 2) = 1; clip(5, 8) = 9; pass() = 1; die(5, 8) = 7; sign(5, 0) = 1; clip(5, 0) = 8; pass() = 2; die(5, 0) = 6
                of(5, 0) = 0; of(5, 1) = 246; of(5, 2) = 0; of(5, 3) = 13; of(5, 4) = 0
                undo() = 1; of(5, 0) = 8; of(5, 1) = 247
                undo() = 3; of(5, 3) = 4
                undo() = 2; of(5, 2) = 8
                undo() = 0; of(5, 4) = 2
                undo() = 1; of(5, 0) = 3; of(5, 1) = 503
                undo() = 3; of(5, 3) = 0
                undo() = 2; of(5, 2) = 9
                undo() = 0; of(5, 4) = -1
                """, """
                15 x pass() = 15; count(5) = 15
                pass() = 16; count(5) = 16
                pass() = 17; count(5) = 16
                15 x undo() = 3; count(13) = 2
                undo() = 3; count(13) = 1
                count(5) = 0
                undo() refused -3
                16 x pass() = 17; count(5) = 16
                undo() = 3; count(13) = 16
                """, """
                cat(0) = 0
                clip(0, 1) = 9
                orders "pass times 13;clip 0 as 2;die 0 as 8" = 15
                count(5) = 16
                undo() = 1; undo() = 2; 13 x undo() = 3; undo() = 2
                of(0, 2) = 9; count(13) = 0; count(16) = 0
                undo() refused -3
                """, """
                cat(0) = 0
                clip(0, 1) = 9
                orders "pass times 20;pass times 20" = 40
                count(5) = 16
                16 x undo() = 3
                count(13) = 24
                undo() refused -3
                """, """
                cat(0) = 0
                clip(0, 1) = 9; clip(0, 2) = 1
                orders "pass times 20;clip 0 as 2" refused -3
                count(5) = 2
                undo() = 2; undo() = 2; of(0, 2) = 9
                """);
    }

    private static void whatEndsUndoing(Edges edges) {
        String some = "cat(0) = 0; ship(0) = 0; sign(0, 0) = 1; die(0, 8) = 7; clip(0, 3) = 9; pass() = 1; count(5) = 4\n";
        edges.edge("Promise 20",
                "-3 there is none (nothing that was ahead of a cat(), terms(), row() that was not REFUSED can be undone).",
                "undo() refused -3; cat(0) = 0; undo() refused -3; pass() = 1; undo() = 3; undo() refused -3",
                some + "cat(5) = 1; count(5) = 0; undo() refused -3; pass() = 2; undo() = 3; undo() refused -3",
                some + "terms(2, 0) = 0; count(5) = 0; undo() refused -3; of(0, 2) = 3",
                some + "terms(1, 5) = 1; undo() refused -3; count(13) = 1",
                some + "row 1 1 1 = 1; count(5) = 0; undo() refused -3",
                some + "row 9 = 0; count(5) = 0; undo() refused -3",
                // one that was refused ends nothing
                some
                        + "cat(9) refused -1; cat(-1) refused -1; terms(0, 1000) refused -1; terms(3, 0) refused -1; "
                        + "row() refused -6; count(5) = 4; undo() = 3",
                some.replace("cat(0) = 0;", "6 x cat(0) = 5;") + "cat(0) refused -5; count(5) = 4; undo() = 3",
                // nor do the others, refused or not
                some + "ship(1) = 1; seen(3) = 1; forget() = 1; law 'bars' = 0; force(0) = -1; years(0, 1); image(0) = 0; "
                        + "tape 'bars'; end(0) = 0; count(5) = 4; undo() = 3; undo() = 2; undo() = 1; undo() = 0",
                some + "image(0) = 0; back(0) = 0; count(5) = 0; undo() refused -3",
                some + "back(0) refused -2; back(2) refused -1; count(5) = 4; undo() = 3",
                some + "sign(0, 0) refused -3; die(0, 8) refused -3; clip(0, 3) refused -3; count(5) = 4; undo() = 3");
    }
}
