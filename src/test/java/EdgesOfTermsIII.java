/** To sign, die, clip, a year, and what is told on paper. The answers are reckoned by hand. */
final class EdgesOfTermsIII {
    private static final String HERE = "Terms III";

    static void tell(Edges edges) {
        doings(edges);
        year(edges);
        onPaper(edges);
        had(edges);
        nextAndLikely(edges);
        canBe(edges);
        look(edges);
        explained(edges);
        complete(edges);
        safe(edges);
        fraudsAndPassing(edges);
        unusedAndRich(edges);
    }

    private static void doings(Edges edges) {
        edges.edge(HERE + ", promise 16",
                "III. To SIGN a CAT that is not GONE on a SHIP other than its own, from which it is not BARRED: that is its SHIP.",
                Edges.under("bars if ship = 2 and life = 3") + """
                cat(3) = 0; row 4 0 9 = 1
                ship(0) = 0; ship(0) = 1; ship(0) = 2
                sign(0, 0) = 1
                of(0, 4) = 0
                sign(0, 0) refused -3
                sign(0, 1) = 1              # from one to another
                of(0, 4) = 1
                at(0, 1) = 0; at(1, 1) = 1
                sign(0, 2) refused -3
                of(0, 4) = 1
                die(0, 4) = 7
                sign(0, 2) = 1              # it is barred no more
                sign(1, 2) = 2
                die(1, 9) = 0
                sign(1, 0) refused -3
                sign(1, 2) refused -3
                at(2, 1) = 1
                """);
        edges.edge(HERE + ", promise 17", """
                To DIE: one that is not GONE is AT a LIFE it has YET (YET no more), or, if it has none, GONE: then it has no SHIP.
                """, """
                row 4 2 9 = 1; ship(0) = 0; sign(0, 0) = 1
                of(0, 1) = 3
                die(0, 4) refused -3        # the one it is at
                die(0, 2) refused -3
                die(0, 9) refused -3
                die(0, 1) = 1
                of(0, 0) = 1; of(0, 1) = 1; of(0, 4) = 0
                die(0, 1) refused -3
                die(0, 9) refused -3
                die(0, 0) = 0
                of(0, 0) = 0; of(0, 1) = 0; of(0, 4) = 0
                die(0, 0) refused -3
                die(0, 9) = 0
                of(0, 0) = -1; of(0, 1) = 0; of(0, 4) = -1
                at(0, 1) = 0
                die(0, 9) refused -3
                die(0, 0) refused -3
                """);
        edges.edge(HERE + ", promise 18", "To CLIP: an EAR is 0 .. 8 (another one than it was).", """
                cat(3) = 0; row 4 0 0 5 0 8 = 2
                clip(0, 9) refused -1       # not clipped can't be had again
                clip(0, -1) refused -1
                clip(1, 0) refused -3
                clip(2, 8) refused -3
                clip(1, 8) = 0
                clip(2, 0) = 8
                clip(0, 3) = 9              # its own life, too
                clip(0, 3) refused -3
                die(1, 9) = 0
                clip(1, 8) refused -3
                clip(1, 7) = 8              # one that is gone has an ear still
                of(1, 2) = 7
                """);
    }

    private static void year(Edges edges) {
        edges.edge(HERE + ", promise 19", """
                A YEAR: all that are not GONE have what they EARN more (9999 at most; all asked as it was ahead); it is the next YEAR
                (at 999 it can't be).
                """, """
                pass() = 1
                cat(0) = 0; cat(8) = 1; row 4 0 9 = 1
                pass() = 2
                of(0, 3) = 1; of(1, 3) = 9; of(2, 3) = 5
                die(2, 9) = 0
                pass() = 3
                of(0, 3) = 2; of(1, 3) = 18; of(2, 3) = 5
                terms(0, 998) = 3
                pass() = 999
                count(13) = 999; of(0, 3) = 3
                pass() refused -3
                count(13) = 999; of(0, 3) = 3
                """, Edges.under("earns 99") + """
                cat(0) = 0
                100 x pass() = 100
                pass() = 101
                of(0, 3) = 9999
                pass() = 102
                of(0, 3) = 9999
                """, Edges.under("earns 98") + """
                cat(0) = 0
                102 x pass() = 102
                of(0, 3) = 9996
                pass() = 103
                of(0, 3) = 9999
                """, Edges.under("earns year + gold + 1") + """
                cat(0) = 0; cat(1) = 1
                pass() = 1
                of(0, 3) = 1; of(1, 3) = 1
                pass() = 2
                of(0, 3) = 4; of(1, 3) = 4
                """);
    }

    private static void onPaper(Edges edges) {
        edges.edge(HERE + ", promises 21, 22, 23",
                "(On paper, EARNS and DARES of a LIFE with so many SPENT, all else, YEAR too, as now:)",
                Edges.under("earns year + gold;dares 0") + """
                cat(2) = 0
                terms(0, 3) = 0
                had(0, 1) = 3000000
                had(0, 9) = 27000000        # the year and the gold are those of now
                """,
                Edges.under("earns spent;dares 10") + "cat(2) = 0; had(0, 9) = 36000000; row 2 2 9 = 1; had(1, 9) = 21000000",
                Edges.under("dares 10;dares 0 if spent = 1") + "cat(2) = 0; likely(0, 60) = 1000000000000; had(0, 3) = 21000000",
                Edges.under("dares 0;dares 10 if year > 0") + "row 2 0 9 = 1; likely(0, 60) = 1000000000000; pass() = 1; "
                        + "likely(0, 1) = 0",
                Edges.under("earns ship + ear + mood + cat;dares 0") + """
                ship(0) = 0; ship(0) = 1; cat(2) = 0; cat(3) = 1
                terms(2, 5) = 0
                sign(1, 1) = 1; clip(1, 3) = 9
                had(0, 2) = 26000000
                had(1, 2) = 20000000
                """);
    }

    private static void had(Edges edges) {
        edges.edge(HERE + ", promise 21", "HAD by a CAT in n YEARS 0 .. 9, in parts of 1,000,000: in no YEARS nothing;", """
                cat(8) = 0
                had(0, -1) none
                had(0, 0) tells 0
                had(0, 1) tells 9000000
                terms(1, 0) = 1
                had(0, 9) tells 81000000
                had(0, 10) none
                """, Edges.under("earns 99;dares 0") + "cat(8) = 0; had(0, 9) = 891000000", Edges.under("earns 0") + "cat(8) = 0; had(0, 9) = 0");
        edges.edge(HERE + ", promise 21", """
                else what its LIFE EARNS times 1,000,000, and what is HAD in one YEAR less if it lives on, times (10 less DARES) by ten, cut, and what
                is HAD in one YEAR less by the LIFE next by which that is most (nothing, if it has none YET), times DARES by ten, cut.
                """,
                // one life alone: 5217031 * 9 / 10 is cut
                Edges.under("earns 1;dares 1") + "row 0 0 9 = 1; had(0, 1) = 1000000; had(0, 2) = 1900000; had(0, 7) = 5217031; "
                        + "had(0, 8) = 5695327",
                // two lives: 5294095 * 7 / 10 and 3058819 * 3 / 10 are cut each
                Edges.under("earns 1;dares 3") + "row 0 1 9 = 1; had(0, 2) = 2000000; had(0, 3) = 2910000; had(0, 7) = 5294095; "
                        + "had(0, 8) = 5623511",
                // the best next one, and an order of its own: 0, then 2 (with 7 spent), then 1 (with 8)
                Edges.under("earns 0;earns 50 if life = 2 and spent = 7;earns 30 if life = 1 and spent = 8;dares 10") + """
                row 0 2 9 = 1
                had(0, 1) = 0; had(0, 2) = 50000000; had(0, 3) = 80000000; had(0, 4) = 80000000
                """,
                Edges.under("earns 7;dares 10") + "row 0 0 9 = 1; had(0, 1) = 7000000; had(0, 9) = 7000000",
                Edges.under("earns 7;dares 0") + "row 0 0 9 = 1; had(0, 9) = 63000000",
                Edges.under("earns 7;dares 10") + "cat(0) = 0; had(0, 9) = 63000000",
                Edges.under("earns 7;dares 10") + "row 0 7 9 = 1; had(0, 8) = 56000000; had(0, 9) = 56000000");
    }

    private static void nextAndLikely(Edges edges) {
        edges.edge(HERE + ", promise 22", "NEXT: if it died now, the LIFE of those it has YET by which most is HAD; the lowest.", """
                cat(0) = 0; cat(8) = 1
                next(0, 0) tells 1
                next(1, 0) tells 0
                next(0, 1) tells 8
                next(1, 1) tells 7
                """, Edges.under("earns 5;earns 9 if life = 3 or life = 6") + "cat(0) = 0; cat(3) = 1; next(0, 1) = 3; next(0, 9) = 3; next(1, 1) = 6",
                Edges.under("earns 5") + "cat(0) = 0; cat(4) = 1; next(0, 9) = 1; next(1, 9) = 0",
                // with one more spent than now
                Edges.under("earns 5;earns 9 if life = 4 and spent = 1;earns 99 if life = 7 and spent = 0") + "cat(0) = 0; "
                        + "next(0, 1) = 4",
                // for one year that pays which dies, for two that which lasts
                Edges.under("earns 0;earns 50 if life = 1;dares 10 if life = 1;earns 30 if life = 2 and spent = 7;dares 0 if life = 2") + """
                row 0 2 9 = 1
                next(0, 1) = 1; next(0, 2) = 2
                """);
        edges.edge(HERE + ", promise 23", """
                LIKELY: the chance, of 1,000,000,000,000 parts, that a CAT is not GONE behind n YEARS, taking always the lowest LIFE it has YET:
                """, """
                cat(0) = 0
                likely(0, 0) tells 1000000000000
                likely(0, 8) tells 1000000000000
                terms(1, 10) = 1
                likely(0, 8) tells 1000000000000
                likely(0, 9) tells 0
                likely(0, 60) tells 0
                """, Edges.under("dares 10;dares 0 if life = 1") + "row 0 2 9 = 1; likely(0, 60) = 1000000000000",
                Edges.under("dares 10;dares 0 if life = 2") + "row 0 2 9 = 1; likely(0, 2) = 1000000000000; "
                        + "likely(0, 60) = 1000000000000",
                Edges.under("dares 10;dares 0 if life = 2 and spent = 7") + "row 0 2 9 = 1; likely(0, 2) = 1000000000000; "
                        + "likely(0, 3) = 0");
        edges.edge(HERE + ", promise 23", """
                YEAR by YEAR, by the LIFE it is AT, each part times DARES by ten goes to the next one, cut, and times (10 less DARES) by ten stays, cut.
                """,
                Edges.under("dares 3") + """
                row 0 0 9 0 1 9 = 2
                likely(0, 1) = 700000000000
                likely(0, 12) = 13841287201
                likely(0, 13) = 9688901040
                likely(1, 1) = 1000000000000
                likely(1, 2) = 910000000000
                likely(1, 12) = 85025049949
                likely(1, 13) = 63669921123
                """,
                Edges.under("dares 0") + "row 0 0 9 = 1; likely(0, 60) = 1000000000000",
                Edges.under("dares 10") + "row 0 0 9 = 1; likely(0, 1) = 0",
                Edges.under("dares 5;dares 10 if life = 1") + "row 0 1 9 = 1; likely(0, 1) = 1000000000000; "
                        + "likely(0, 2) = 500000000000; likely(0, 3) = 250000000000");
    }

    private static void canBe(Edges edges) {
        edges.edge(HERE + ", promise 26",
                "IT CAN BE: LIVES of nine AT which a CAT would SHOW (SPENT as now) all that was SEEN, YEARS 0, 1 .. on (the first one now).",
                Edges.under("shows [life + year] % 4") + """
                cat(0) = 0
                canBe(0) tells 511          # nothing was seen
                seen(1) = 1; canBe(0) tells 34
                seen(2) = 2; canBe(0) tells 34
                terms(0, 1) = 0; canBe(0) tells 273
                seen(2) = 3; canBe(0) tells 0
                """,
                Edges.under("shows spent") + "row 3 0 9 = 1; seen(8) = 1; canBe(0) = 511; die(0, 9) = 0; canBe(0) = 0; "
                        + "forget() = 1; seen(9) = 1; canBe(0) = 511",
                // life 8 is told apart in the eighth year alone; of nine, not of those it has yet
                Edges.under("shows 0;shows 1 if life = 8 and year = 7") + "row 3 0 9 = 1; 7 x seen(0) = 7; canBe(0) = 511; "
                        + "seen(1) = 8; canBe(0) = 256",
                Edges.under("shows 0;shows 1 if life = 8 and year = 8") + "row 3 0 9 = 1; 7 x seen(0) = 7; canBe(0) = 511; "
                        + "seen(1) = 8; canBe(0) = 0",
                // on paper the years go on beyond the last
                Edges.under("shows year / 1000") + "cat(0) = 0; terms(0, 999) = 0; seen(0) = 1; canBe(0) = 511; seen(1) = 2; "
                        + "canBe(0) = 511; seen(0) = 3; canBe(0) = 0");
    }

    private static String looks(int cat, int year, int left) {
        return "look(" + cat + ", 0) tells " + year + "; look(" + cat + ", 1) tells " + left + "\n";
    }

    private static void look(Edges edges) {
        edges.edge(HERE + ", promise 27",
                "To LOOK: in how many YEARS 0 .. 9 the more of these that SHOW alike are as few as can be at most; the first.",
                "cat(5) = 0\n" + looks(0, 0, 1),
                Edges.under("shows 1;shows life if year = 9") + "cat(5) = 0\n" + looks(0, 9, 1) + "pass() = 1\n" + looks(0, 8, 1)
                        + "terms(0, 9) = 1\n" + looks(0, 0, 1) + "terms(0, 10) = 9\n" + looks(0, 0, 9),
                Edges.under("shows 1;shows life if year = 10") + "cat(5) = 0\n" + looks(0, 0, 9) + "pass() = 1\n" + looks(0, 9, 1),
                // five and four, then three by three, then the same again
                Edges.under("shows life % 2;shows life % 3 if year > 1") + "cat(5) = 0\n" + looks(0, 2, 3),
                // of those it can be alone: lives 0, 2, 4, 6, 8 by threes are 0, 2, 1, 0, 2
                Edges.under("shows life % 2;shows life % 3 if year > 1") + "cat(5) = 0; seen(0) = 1\n" + looks(0, 2, 2),
                Edges.under("shows 3") + "cat(5) = 0\n" + looks(0, 0, 9) + "seen(3) = 1\n" + looks(0, 0, 9) + "seen(4) = 2\n"
                        + "look(0, 0) none; look(0, 1) none",
                Edges.under("shows 0;shows 1 if life = 4") + "cat(5) = 0; seen(1) = 1\n" + looks(0, 0, 1),
                Edges.under("shows 0;shows life if year = 1000 + 8") + "cat(5) = 0; terms(0, 999) = 0\n" + looks(0, 9, 1));
    }

    private static String sees(int... doings) {
        StringBuilder run = new StringBuilder("forget()\n");
        for (int doing : doings) {
            run.append("seen(").append(doing).append(")\n");
        }
        return run.toString();
    }

    private static void explained(Edges edges) {
        edges.edge(HERE + ", promise 28", """
                EXPLAINED: the fewest LIVES of a CAT that is not GONE, the one it is AT now first, then such as it has YET, each once, each for one doing
                or more, by which all that was SEEN is SHOWN, YEARS 0, 1 .. on (SPENT one more with each next LIFE).
                """,
                "cat(3) = 0\n" + "explained(0) tells 0\n" + sees(3) + "explained(0) tells 1\n" + sees(4) + "explained(0) none\n"
                        + sees(3, 4) + "explained(0) tells 2\n" + sees(3, 4, 3) + "explained(0) none\n" + sees(3,
                        9) + "explained(0) none\n"
                        + sees(3, 3, 3, 3, 3, 3, 3, 3) + "explained(0) tells 1\n" + sees(3, 8, 0, 7, 1, 6, 2,
                        5) + "explained(0) tells 8\n"
                        + sees(3, 8, 8, 7, 7, 3) + "explained(0) none\n",
                "row 3 1 9 4 0 9 = 2\n" + sees(3, 0) + "explained(0) = 2\n" + sees(3,
                1) + "explained(0) = -1\n" + sees(4) + "explained(1) = 1\n"
                        + sees(4,
                        0) + "explained(1) = -1; "
                                + "die(1, 9) = 0\n" + sees(4) + "explained(1) none\n" + sees() + "explained(1) none\n",
                // each for one doing or more: no life is stepped over, though that would spend one
                Edges.under("shows spent") + "cat(3) = 0\n" + sees(0, 1, 2, 3, 4, 5, 6, 7) + "explained(0) = 8\n" + sees(0,
                2) + "explained(0) = -1\n"
                        + sees(0, 0, 1, 1, 2) + "explained(0) = 3\n" + sees(1) + "explained(0) = -1\n",
                Edges.under("shows spent") + "row 3 1 9 = 1\n" + sees(7, 8) + "explained(0) = 2\n" + sees(7, 8,
                9) + "explained(0) = -1\n",
                Edges.under("shows [life + year] % 2") + "cat(0) = 0\n" + sees(0, 1, 0, 1) + "explained(0) = 1\n" + sees(0,
                0) + "explained(0) = 2\n"
                        + sees(0, 0, 1, 1) + "explained(0) = 3\n" + sees(0, 0, 0, 0, 0, 0, 0,
                        0) + "explained(0) = 8\npass() = 1\n" + sees(0) + "explained(0) = -1\n",
                // by threes alike: the fewest, and each once
                Edges.under("shows life / 3") + "cat(0) = 0\n" + sees(0, 1, 0, 1, 0, 1) + "explained(0) = 6\n" + sees(0, 1, 0, 1, 0,
                1, 0) + "explained(0) = -1\n"
                        + sees(0, 0, 1, 1, 0, 0) + "explained(0) = 3\n",
                // life 3 alone does what 1 and 2 could do together
                Edges.under("shows 0;shows 1 if year = 1 and (life = 1 or life = 3);shows 2 if year = 2 and (life = 2 or life = 3)")
                        + "cat(0) = 0\n" + sees(0, 1, 2) + "explained(0) = 2\n",
                // life 2 alone shows 1 now and 2 then: two lives do what three could do as well
                Edges.under("shows 0;shows 1 if life > 0 and year = 1;shows 2 if life > 1 and year = 2") + "row 0 2 9 = 1\n"
                        + sees(0,
                1, 2) + "explained(0) = 2\n");
    }

    private static String completes(int many, int which) {
        return "complete(0, 0) tells " + many + "; complete(0, 1) tells " + which + "\n";
    }

    private static void complete(Edges edges) {
        edges.edge(HERE + ", promise 29", """
                COMPLETE: the fewest CATS that are not GONE, have no SHIP and are not BARRED, by which with its crew all LIVES a SHIP NEEDS are aboard;
                the lowest as bits.
                """,
                "ship(0) = 0\n" + completes(0, 0) + "cat(3) = 0\n" + completes(0, 0),
                "ship(1) = 0; complete(0, 0) none; complete(0, 1) none; cat(1) = 0; complete(0, 0) none; "
                        + "cat(0) = 1\n" + completes(1,
                2)
                        + "cat(0) = 2\n" + completes(1, 2) + "ship(0) = 1; sign(1, 1) = 1\n" + completes(1,
                        4) + "sign(2, 0) = 1\n" + completes(0, 0)
                        + "die(2, 1) = 7; complete(0, 0) none; complete(0, 1) none\n",
                "ship(63) = 0; cat(5) = 0; cat(4) = 1; cat(3) = 2; cat(2) = 3; cat(1) = 4; complete(0, 0) none; "
                        + "cat(0) = 5\n" + completes(6,
                63)
                        + "sign(5, 0) = 1\n" + completes(5, 31),
                "ship(511) = 0; 6 x cat(3) = 5; complete(0, 0) none; complete(0, 1) none",
                // those of another SHIP don't count, whichever they are
                "ship(1) = 0; ship(0) = 1; cat(0) = 0\n" + completes(1,
                1) + "sign(0, 1) = 1; complete(0, 0) none; complete(0, 1) none; cat(0) = 1\n" + completes(1, 2)
                        + "sign(1, 1) = 2; complete(0, 0) none; sign(0, 0) = 1\n" + completes(0, 0),
                // two by two are the fewest: the lowest as bits is 0 and 1, then 1 and 2
                "ship(3) = 0; cat(0) = 0; cat(1) = 1; cat(0) = 2; cat(1) = 3\n" + completes(2, 3) + "die(0, 8) = 7\n" + completes(2,
                6),
                Edges.under("bars if ear = 0 and ship = 0") + "ship(1) = 0; ship(1) = 1; cat(0) = 0; cat(0) = 1\n" + completes(1,
                1) + "clip(0, 0) = 9\n"
                        + completes(1,
                        2) + "complete(1, 1) tells 1; clip(1, 0) = 9; complete(0, 0) none; complete(0, 1) none; "
                                + "complete(1, 0) tells 1",
                // one that has signed on and is barred since is aboard still
                Edges.under("bars if year > 0") + "ship(1) = 0; cat(0) = 0; sign(0, 0) = 1; pass() = 1; "
                        + "at(0, 3) = 1\n" + completes(0,
                0),
                "ship(1) = 0; row 0 0 9 = 1\n" + completes(1, 1) + "die(0, 9) = 0; complete(0, 0) none; complete(0, 1) none");
    }

    private static void safe(Edges edges) {
        edges.edge(HERE + ", promise 30", """
                SAFE: the chance, of 1,000,000,000,000 parts, that none of a SHIP's crew dies in a YEAR: CAT by CAT times (10 less DARES) by ten, cut.
                """,
                Edges.under("dares life + 1") + """
                ship(0) = 0; ship(0) = 1
                safe(0) tells 1000000000000
                6 x cat(8) = 5
                sign(0, 0) = 1; safe(0) tells 100000000000
                sign(1, 0) = 2; safe(0) tells 10000000000
                sign(2, 0); sign(3, 0); sign(4, 0)
                sign(5, 0) = 6; safe(0) tells 1000000
                safe(1) tells 1000000000000
                die(5, 2) = 7; safe(0) tells 7000000
                """,
                Edges.under("dares 10;dares 0 if cat > 0") + """
                ship(0) = 0; cat(8) = 0; cat(8) = 1
                sign(1, 0) = 1; safe(0) = 1000000000000
                sign(0, 0) = 2; safe(0) = 0
                """,
                "ship(0) = 0; row 4 0 9 = 1; terms(1, 3) = 1; sign(0, 0) = 1; safe(0) = 700000000000; die(0, 9) = 0; "
                        + "safe(0) = 1000000000000");
    }

    private static void fraudsAndPassing(Edges edges) {
        edges.edge(HERE + ", promise 31", "FRAUDS: CATS not GONE whose EAR is 0 .. 8, but not the LIFE they are AT.", """
                frauds() tells 0
                row 0 0 0 0 0 1 8 0 8 8 0 0 3 0 9 3 8 8 = 6
                frauds() tells 42
                clip(4, 3) = 9; frauds() tells 42
                clip(4, 4) = 3; frauds() tells 58
                die(5, 8) = 7; frauds() tells 26
                die(1, 9) = 0; frauds() tells 24
                clip(0, 8) = 0; frauds() tells 25
                """);
        edges.edge(HERE + ", promise 32",
                "PASSING: twos of CATS that are not GONE, AT unlike LIVES, that SHOW alike in each of YEARS 0 .. 9 on.",
                "passing(-1) tells 0; cat(1) = 0; passing(-1) tells 0; cat(1) = 1; passing(-1) tells 0; cat(2) = 2; "
                        + "passing(-1) tells 0",
                Edges.under("shows 1") + """
                row 0 0 9 1 0 9 2 0 9 3 0 9 4 0 9 5 0 9 = 6
                passing(-1) tells 15
                passing(0) tells 1; passing(14) tells 45; passing(15) none
                die(5, 9) = 0; passing(-1) tells 10
                die(0, 9) = 0; passing(-1) tells 6; passing(0) tells 12
                """,
                Edges.under("shows 1") + "cat(1) = 0; cat(1) = 1; passing(-1) = 0; die(1, 2) = 7; passing(-1) = 1",
                Edges.under("shows 1;shows life if year = 9") + "cat(1) = 0; cat(2) = 1; passing(-1) = 0; terms(0, 9) = 0; "
                        + "passing(-1) = 0; terms(0, 10) = 9; passing(-1) = 1",
                Edges.under("shows 1;shows life if year = 10") + "cat(1) = 0; cat(2) = 1; passing(-1) = 1; pass() = 1; "
                        + "passing(-1) = 0",
                Edges.under("shows 1;shows life if year = 1000 + 8")
                        + "cat(1) = 0; cat(2) = 1; terms(0, 998) = 0; passing(-1) = 1; terms(0, 999) = 998; passing(-1) = 0");
    }

    private static void unusedAndRich(Edges edges) {
        edges.edge(HERE + ", promise 33", "UNUSED: LIVES no CAT is AT.", """
                unused() tells 511
                cat(0) = 0; unused() tells 510
                cat(8) = 1; unused() tells 254
                cat(8) = 2; unused() tells 254
                die(1, 1) = 7; unused() tells 252
                die(2, 2) = 7; unused() tells 504
                row 5 0 9 = 1; unused() tells 472
                die(3, 9) = 0; unused() tells 504
                """);
        edges.edge(HERE + ", promise 34", "RICH: what all CATS that are not GONE EARN together by a LAW in place of that in FORCE (NONE: none).", """
                rich(-1) tells 0
                law "earns 1000" = 0
                law "earns cat" = 1
                rich(0) tells 0
                6 x cat(8) = 5
                rich(-1) tells 54
                rich(0) tells 594
                rich(1) tells 15
                force(0) = -1
                rich(-1) tells 54
                rich(1) tells 15
                """, """
                law "earns 10" = 0
                row 3 0 9 4 0 9 = 2
                rich(0) = 20; rich(-1) = 9
                die(1, 9) = 0
                rich(0) = 10; rich(-1) = 4
                die(0, 9) = 0
                rich(0) = 0; rich(-1) = 0
                """);
    }
}
