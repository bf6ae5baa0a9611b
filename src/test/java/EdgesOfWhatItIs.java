/** The document ahead of its terms and behind its promises: what it is, the public face, what is not promised. */
final class EdgesOfWhatItIs {
    private static final String HERE = "What it is";
    private static final String FACE = "The public face";
    private static final String PORT = Edges.PORT;

    static void tell(Edges edges) {
        catsAndLives(edges);
        languages(edges);
        doings(edges);
        onPaper(edges);
        goneBackTo(edges);
        faceOfPort(edges);
        faceOfTape(edges);
        faceOfDoings(edges);
        faceOfPaper(edges);
        faceOfYearsAndImages(edges);
        notPromised(edges);
    }

    private static void catsAndLives(Edges edges) {
        edges.edge(HERE + ", promises 2, 3, 17", "A port whose cats have nine lives that differ, in an order that is a cat's own affair:",
                // nine lives in two orders, each once, then it is gone
                """
                cat(4) = 0
                die(0, 8) = 7; die(0, 0) = 6; die(0, 7) = 5; die(0, 1) = 4; die(0, 6) = 3; die(0, 2) = 2; die(0, 5) = 1; die(0, 3) = 0
                of(0, 0) = 3; of(0, 5) = 8
                die(0, 9) = 0
                of(0, 0) = -1; of(0, 5) = 9
                die(0, 9) refused -3
                """, """
                cat(0) = 0
                die(0, 1) = 7; die(0, 2) = 6; die(0, 3) = 5; die(0, 4) = 4; die(0, 5) = 3; die(0, 6) = 2; die(0, 7) = 1; die(0, 8) = 0
                die(0, 9) = 0
                of(0, 0) = -1
                """, "cat(0) = 0; cat(8) = 1; of(0, 6) = 1; of(1, 6) = 9; of(0, 8) = 0; of(1, 8) = 8");
        edges.edge(HERE + ", promises 3, 4, 5, 18, 19",
                "cats with the life they are at and those they have yet, marks on ears, gold, ships that need lives aboard;", """
                cat(2) = 0
                of(0, 0) = 2; of(0, 1) = 507; of(0, 2) = 9; of(0, 3) = 0
                clip(0, 2) = 9; pass() = 1
                of(0, 2) = 2; of(0, 3) = 3
                ship(12) = 0
                at(0, 0) = 12; at(0, 2) = 12
                sign(0, 0) = 1
                at(0, 2) = 8
                """);
    }

    private static void languages(Edges edges) {
        edges.edge(HERE + ", promises 3, 11, 15, 16",
                "laws in a language of what a life earns, how it dares, what one sees of it, who may not sign;", """
                law "earns 7 * life;dares life - 3;shows 8 - life;bars if life < 5" = 0
                cat(4) = 0; cat(6) = 1; ship(0) = 0
                of(0, 6) = 5; of(0, 7) = 1; of(0, 8) = 4
                force(0) = -1
                of(0, 6) = 28; of(0, 7) = 1; of(0, 8) = 4
                of(1, 6) = 42; of(1, 7) = 3; of(1, 8) = 2
                sign(0, 0) refused -3
                sign(1, 0) = 1
                """);
        edges.edge(HERE + ", promise 12", "orders in a second language that are run wholly or not at all;",
                "cat(3) = 0; orders 'pass;clip 0 as 3;die 0 as 5' = 3; of(0, 0) = 5; of(0, 2) = 3; of(0, 3) = 4; count(5) = 3",
                "cat(3) = 0; orders 'pass;clip 0 as 3;die 0 as 3' refused -3; stopped() = 2; of(0, 0) = 3; of(0, 2) = 9; count(5) = 0",
                // neither language is the other
                "law 'pass' refused -6; fault() = 0; orders 'bars' refused -6; fault() = 0");
    }

    private static void doings(Edges edges) {
        edges.edge(HERE + ", promises 16 to 19", "cats signed on, deaths, ears clipped, years;",
                "cat(1) = 0; ship(2) = 0; sign(0, 0) = 1; die(0, 0) = 7; clip(0, 0) = 9; pass() = 1; count(5) = 4");
    }

    private static void onPaper(Edges edges) {
        edges.edge(HERE + ", promises 21, 22", "what is had at most by which life next,",
                // 1 + .9 * 1 + .1 * 9 by life 8
                "cat(0) = 0; had(0, 2) = 2800000; next(0, 1) = 8");
        edges.edge(HERE + ", promises 26, 27", "which lives it can be by what was seen, the year to look,",
                // in year 0 all show alike, in year 1 the even ones and the odd ones
                Edges.under("shows life % 2;shows 0 if year = 0") + """
                cat(0) = 0
                canBe(0) = 511; look(0, 0) = 1; look(0, 1) = 5
                seen(0) = 1; seen(1) = 2
                canBe(0) = 170; look(0, 0) = 0; look(0, 1) = 4
                """);
        edges.edge(HERE + ", promises 28, 29", "the fewest lives that explain a row of doings, the fewest cats that complete a crew,",
                "cat(3) = 0; seen(3) = 1; seen(7) = 2; seen(7) = 3; explained(0) = 2; seen(3) = 4; explained(0) none",
                "cat(3) = 0; cat(5) = 1; cat(3) = 2; ship(40) = 0; complete(0, 0) = 2; complete(0, 1) = 3");
        edges.edge(HERE + ", promises 23, 30, 31", "how likely a ship is safe, frauds, how likely a cat outlives so many years,", """
                terms(1, 2) = 1
                row 6 0 5 6 0 6 = 2
                ship(0) = 0; sign(0, 0) = 1; sign(1, 0) = 2
                safe(0) = 640000000000
                frauds() = 1
                likely(0, 3) = 512000000000
                """);
        edges.edge(HERE + ", promises 32 to 34", "cats that pass for one another, lives nobody is at, earnings by laws;",
                Edges.under("shows life % 2") + """
                law "earns 10" = 1
                cat(1) = 0; cat(2) = 1; cat(5) = 2
                passing(-1) = 1; passing(0) = 2
                unused() = 473
                rich(-1) = 11; rich(0) = 11; rich(1) = 30
                """);
    }

    private static void goneBackTo(Edges edges) {
        edges.edge(HERE + ", promises 20, 35 to 38", "deaths undone, years by draws; all gone back to.",
                "cat(1) = 0; die(0, 4) = 7; undo() = 1; of(0, 0) = 1; of(0, 1) = 509",
                "cat(1) = 0; terms(1, 10) = 1; years(0, 3) = 3; drawn(0, 0) = 3; drawn(0, 1) = 5; drawn(0, 2) = 8; of(0, 0) = 1",
                """
                cat(1) = 0; image(0) = 0
                cat(2) = 1; ship(1) = 0; sign(0, 0) = 1; die(0, 3) = 7; clip(0, 3) = 9; pass() = 1
                terms(2, 3) = 0; seen(4) = 1; law "earns 2" = 0; force(0) = -1
                back(0) = 0
                count(0) = 1; count(2) = 0; count(3) = 0; count(4) = 0; count(5) = 0; count(12) = -1; count(13) = 0; count(15) = 0
                of(0, 0) = 1; of(0, 2) = 9; of(0, 3) = 0; of(0, 4) = -1
                """);
    }

    // ---- each call by its name and its numbers; LanguageTest compares the types

    private static void faceOfPort(Edges edges) {
        edges.edge(FACE + ", promises 1 to 6", """
                public final class NineLives { public static final int NONE = -1; public NineLives(); public int cat(int life);
                public int of(int cat, int what); public int ship(int needs); public int at(int ship, int what);
                public int terms(int what, int value);
                """, """
                cat(3) = 0; of(0, 0) = 3; ship(9) = 0; at(0, 0) = 9; terms(2, 7) = 0
                of(1, 0) none; of(0, 9) none; at(1, 0) none; at(0, 4) none
                cat(9) refused -1; ship(512) refused -1; terms(2, 10) refused -1
                """);
    }

    private static void faceOfTape(Edges edges) {
        edges.edge(FACE + ", promises 7 to 15", """
                public int feed(int a, int b, int c, int d, int e); public int end(int n); public int row(); public int mice();
                public int law(); public int orders(); public int fault(); public int stopped(); public int force(int law);
                """, """
                feed(0, 0, 0, 0, 0) = 20; end(4) = 4; end(5) none; row() = 1; mice() = 1
                law() refused -6; fault() = 0
                orders() refused -6; fault() = 0; stopped() = -1
                force(0) refused -2; force(-1) = -1
                """);
    }

    private static void faceOfDoings(Edges edges) {
        edges.edge(FACE + ", promises 16 to 20", """
                public int sign(int cat, int ship); public int die(int cat, int next); public int clip(int cat, int ear);
                public int pass(); public int undo();
                """, """
                cat(0) = 0; ship(0) = 0
                sign(0, 0) = 1; die(0, 1) = 7; clip(0, 1) = 9; pass() = 1
                undo() = 3; undo() = 2; undo() = 1; undo() = 0; undo() refused -3
                sign(1, 0) refused -2; die(1, 0) refused -2; clip(1, 0) refused -2
                """);
    }

    private static void faceOfPaper(Edges edges) {
        edges.edge(FACE + ", promises 21 to 34", """
                public long had(int cat, int n); public int next(int cat, int n); public long likely(int cat, int n);
                public int seen(int doing); public int forget(); public int canBe(int cat); public int look(int cat, int what);
                public int explained(int cat); public int complete(int ship, int what); public long safe(int ship);
                public int frauds(); public int passing(int i); public int unused(); public int rich(int law);
                """, """
                cat(0) = 0; ship(1) = 0
                had(0, 1) = 1000000; next(0, 0) = 1; likely(0, 0) = 1000000000000
                seen(0) = 1; canBe(0) = 1; look(0, 0) = 0; look(0, 1) = 1; explained(0) = 1; forget() = 1
                complete(0, 0) = 1; complete(0, 1) = 1; safe(0) = 1000000000000
                frauds() = 0; passing(-1) = 0; passing(0) none; unused() = 510; rich(-1) = 1
                """,
                // those that answer a long tell more than an int could hold
                "law 'earns 99' = 0; force(0) = -1; cat(0) = 0; had(0, 9) = 891000000; likely(0, 1) = 1000000000000",
                "had(0, 0) none; likely(0, 0) none; safe(0) none");
    }

    private static void faceOfYearsAndImages(Edges edges) {
        edges.edge(FACE + ", promises 35 to 40", """
                public int years(int seed, int n); public int drawn(int cat, int what); public int image(int k);
                public int back(int k); public int count(int what); public int status(); }
                """, """
                status() = 0; cat(0) = 0
                drawn(0, 0) none; years(1, 1) = 0; drawn(0, 0) = 0; drawn(0, 2) = 1
                back(1) refused -2; image(1) = 0; back(1) = 0; image(2) refused -1
                count(0) = 1; count(7) = 1; count(8) = 1; count(17) none; status() = -1
                """);
    }

    /** What only tells changes nothing: asked of a port that has something of everything, all is as it was ahead. */
    private static void notPromised(Edges edges) {
        edges.edge("Not promised, promises 3, 5, 10, 13, 14, 21 to 23, 26 to 34, 36, 39, 40", """
                Nothing is promised beyond the answers and state changes described above,
                """, PORT + "of(0, 0) tells 0; of(1, 6) tells 8; of(1, 7) tells 1; of(1, 8) tells 1; at(0, 1) tells 1; at(1, 3) tells 2",
                PORT + "mice() tells 2; fault() tells 5; stopped() tells 1; count(5) tells 6; status() tells -6",
                PORT + "had(1, 9) tells 80622614; next(1, 9) tells 8; likely(1, 60) tells 999999999955; canBe(1) tells 292; look(1, 0) tells 0",
                PORT + "explained(1) tells 1; complete(1, 1) none; safe(0) tells 1000000000000; frauds() tells 10; passing(-1) tells 1",
                PORT + "unused() tells 470; rich(1) tells 27; drawn(1, 0) tells 5; drawn(3, 0) tells 0; drawn(3, 1) tells 1; drawn(1, 2) tells 53");
        edges.edge("Not promised, promise 1", "and nothing about an object after its 512th call.", "512 x pass() = 512");
    }
}
