import java.util.Arrays;

/**
 * A port whose cats have nine lives that differ, with ships, laws, orders and years.
 * The document's words (CAT, YET, SPENT, EARNS ..) are used here as it uses them.
 */
public final class NineLives {
    /** There is none; GONE. */
    public static final int NONE = -1;

    private static final int LIVES = 9;
    private static final int ALL_LIVES = 511;
    private static final int CATS = 6;
    private static final int SHIPS = 3;
    private static final int SEEN = 8;
    private static final int LAWS = 6;
    private static final int IMAGES = 2;
    private static final int NO_LIFE_NEXT = 9;
    private static final int NOT_CLIPPED = 9;
    private static final int MOST_GOLD = 9999;
    private static final int DOINGS_SHOWN = 10;

    /** The TERMS, and what each of them is at most. */
    private static final int YEAR = 0;
    private static final int DRAYS = 1;
    private static final int MOOD = 2;
    private static final int TERMS = 3;
    private static final int LAST_YEAR = 999;
    private static final int[] MOST_OF_TERM = {LAST_YEAR, 10, 9};

    private static final int YEARS_AHEAD = 10;
    private static final int MOST_YEARS_HAD = 9;
    private static final int MOST_YEARS_LIKELY = 60;
    private static final int MOST_YEARS_DRAWN = 60;
    private static final int MOST_SEED = 1000000;
    private static final long GOLD_PARTS = 1000000L;
    private static final long CHANCE_PARTS = 1000000000000L;

    /** What a call is REFUSED by. */
    private static final int BAD_NUMBER = -1;
    private static final int NO_SUCH = -2;
    private static final int CANT_BE = -3;
    private static final int NO_ROOM = -5;
    private static final int BAD_TEXT = -6;
    private static final int REFUSAL_KINDS = 7;

    /** The four that can be undone, by the numbers that undo() tells; ORDERS stand in the same order. */
    private static final int TO_SIGN = 0;
    private static final int TO_DIE = 1;
    private static final int TO_CLIP = 2;
    private static final int TO_PASS = 3;

    private static final int TAPE_BYTES = 400;
    private static final int CLAUSES = 12;
    private static final int PARTS = 50;
    private static final int BRACKETS = 8;
    private static final int MOST_NUMBER = 1000;
    private static final int MOST_TIMES = 20;
    private static final long MOST_SUM = 1000000000L;
    private static final long BROKEN = Long.MIN_VALUE;
    private static final long IS_SO = 1L;

    /** A CLAUSE has three pieces of code: its first SUM, its second one, its "if". Any may be empty. */
    private static final int PIECES = 3;
    private static final int FIRST_SUM = 0;
    private static final int SECOND_SUM = 1;
    private static final int IF_TEST = 2;

    /**
     * A sign's TOKEN is its byte, a word's is its place in VOCABULARY behind FIRST_WORD.
     * A word that both languages lack is UNKNOWN; WORD is how code reads one.
     */
    private static final String VOCABULARY =
            "or and not if times on as earns dares shows bars sign die clip pass cat life spent ear gold ship year mood done latest alive crew ";
    private static final int VOCABULARY_SIZE = 27;
    private static final int LONGEST_WORD = 6;
    private static final int FIRST_WORD = 256;
    private static final int OR = 256;
    private static final int AND = 257;
    private static final int NOT = 258;
    private static final int IF = 259;
    private static final int TIMES = 260;
    private static final int ON = 261;
    private static final int AS = 262;
    private static final int EARNS = 263;
    private static final int DARES = 264;
    private static final int SHOWS = 265;
    private static final int BARS = 266;
    private static final int SIGN = 267;
    private static final int PASS = 270;
    private static final int CAT_WORD = 271;
    private static final int LIFE_WORD = 272;
    private static final int GOLD_WORD = 275;
    private static final int YEAR_WORD = 277;
    private static final int MOOD_WORD = 278;
    private static final int DONE_WORD = 279;
    private static final int LATEST_WORD = 280;
    private static final int ALIVE_WORD = 281;
    private static final int CREW_WORD = 282;
    private static final int NUMBER = 300;
    private static final int END = 301;
    private static final int UNKNOWN = 302;
    private static final int WORD = 303;

    /** What the words of LAWS are, by their places in VOCABULARY from CAT_WORD on. */
    private static final int LAW_WORDS = 8;
    private static final int ASKED_CAT = 0;
    private static final int ASKED_LIFE = 1;
    private static final int ASKED_SPENT = 2;
    private static final int ASKED_EAR = 3;
    private static final int ASKED_GOLD = 4;
    private static final int ASKED_SHIP = 5;
    private static final int ASKED_YEAR = 6;
    private static final int ASKED_MOOD = 7;

    /** Where the words of ORDERS stand: life and gold have a place for each CAT, crew for each SHIP. */
    private static final int ORDER_WORDS = 19;
    private static final int TOLD_YEAR = 0;
    private static final int TOLD_DONE = 1;
    private static final int TOLD_LATEST = 2;
    private static final int TOLD_ALIVE = 3;
    private static final int TOLD_LIFE = 4;
    private static final int TOLD_GOLD = 10;
    private static final int TOLD_CREW = 16;

    private final Port port;
    private final Port[] images;
    private final Port behindYears;
    private final Tape tape;
    private final Reader reader;
    private final Asking asking;
    private final Doings doings;
    private final Orders orders;
    private final Fortune fortune;
    private final Sight sight;
    private final int[] refusals;
    private int mice;
    private int faultPlace;
    private int stoppedClause;
    private int refusedBy;

    public NineLives() {
        Reckoner reckoner = new Reckoner();
        port = new Port();
        images = new Port[IMAGES];
        behindYears = new Port();
        tape = new Tape();
        reader = new Reader();
        asking = new Asking(reckoner);
        doings = new Doings(port, asking);
        orders = new Orders(doings, reckoner);
        fortune = new Fortune(asking);
        sight = new Sight(asking);
        refusals = new int[REFUSAL_KINDS];
        mice = 0;
        faultPlace = NONE;
        stoppedClause = NONE;
        refusedBy = 0;
    }

    // ---- CATS, SHIPS, TERMS

    public int cat(int life) {
        if (!isLife(life)) {
            return refused(BAD_NUMBER);
        }
        if (port.cats >= CATS) {
            return refused(NO_ROOM);
        }
        doings.forgetPast();
        return allowed(port.addCat(life, ALL_LIVES & ~(1 << life), NOT_CLIPPED));
    }

    public int of(int cat, int what) {
        if (!port.hasCat(cat)) {
            return NONE;
        }
        switch (what) {
            case 0: return port.life[cat];
            case 1: return port.yet[cat];
            case 2: return port.ear[cat];
            case 3: return port.gold[cat];
            case 4: return port.ship[cat];
            case 5: return port.spentBy(cat);
            case 6: return askedNow(cat, EARNS);
            case 7: return askedNow(cat, DARES);
            case 8: return askedNow(cat, SHOWS);
            default: return NONE;
        }
    }

    private int askedNow(int cat, int kind) {
        if (!port.isHere(cat)) {
            return NONE;
        }
        asking.about(port, cat);
        return asking.tells(kind);
    }

    public int ship(int needs) {
        if (needs < 0 || needs > ALL_LIVES) {
            return refused(BAD_NUMBER);
        }
        if (port.ships >= SHIPS) {
            return refused(NO_ROOM);
        }
        return allowed(port.addShip(needs));
    }

    public int at(int ship, int what) {
        if (!port.hasShip(ship)) {
            return NONE;
        }
        switch (what) {
            case 0: return port.needs[ship];
            case 1: return port.crewOf(ship);
            case 2: return port.missingOn(ship);
            case 3: return asking.barredFrom(port, ship);
            default: return NONE;
        }
    }

    public int terms(int what, int value) {
        if (what < 0 || what >= TERMS || value < 0 || value > MOST_OF_TERM[what]) {
            return refused(BAD_NUMBER);
        }
        int was = port.terms[what];
        port.terms[what] = value;
        doings.forgetPast();
        return allowed(was);
    }

    // ---- the TAPE and what is read from it

    public int feed(int a, int b, int c, int d, int e) {
        if (!tape.hasRoomForFive()) {
            return NONE;
        }
        tape.add(a);
        tape.add(b);
        tape.add(c);
        tape.add(d);
        tape.add(e);
        return tape.size;
    }

    public int end(int n) {
        if (n < 0 || n > tape.size) {
            return NONE;
        }
        tape.size = n;
        return n;
    }

    public int row() {
        if (tape.size == 0) {
            return refused(BAD_TEXT);
        }
        doings.forgetPast();
        int came = 0;
        mice = 0;
        for (int place = 0; place < tape.size; place += 3) {
            if (cameFrom(place)) {
                came++;
            } else {
                mice++;
            }
        }
        tape.size = 0;
        return allowed(came);
    }

    /** Whether the three bytes from a place on are a CAT (which is here then), not a MOUSE. */
    private boolean cameFrom(int place) {
        if (place + 2 >= tape.size || port.cats >= CATS) {
            return false;
        }
        int life = tape.byteAt(place);
        int others = tape.byteAt(place + 1);
        int ear = tape.byteAt(place + 2);
        if (!isLife(life) || others >= LIVES || ear > NOT_CLIPPED) {
            return false;
        }
        port.addCat(life, lowestBeside(life, others), ear);
        return true;
    }

    /** The lowest so many LIVES, as bits, that are not this one. */
    private static int lowestBeside(int life, int many) {
        int bits = 0;
        int left = many;
        for (int other = 0; other < LIVES && left > 0; other++) {
            if (other != life) {
                bits |= 1 << other;
                left--;
            }
        }
        return bits;
    }

    public int mice() {
        return mice;
    }

    public int law() {
        if (port.laws >= LAWS) {
            tape.size = 0;
            return refused(NO_ROOM);
        }
        faultPlace = reader.read(tape, true);
        if (faultPlace != NONE) {
            return refused(BAD_TEXT);
        }
        return allowed(port.addLaw(reader.text.copied()));
    }

    public int orders() {
        stoppedClause = NONE;
        faultPlace = reader.read(tape, false);
        if (faultPlace != NONE) {
            return refused(BAD_TEXT);
        }
        int ran = orders.run(reader.text);
        stoppedClause = orders.stoppedAt;
        return told(ran);
    }

    public int fault() {
        return faultPlace;
    }

    public int stopped() {
        return stoppedClause;
    }

    public int force(int law) {
        if (law != NONE && !port.hasLaw(law)) {
            return refused(NO_SUCH);
        }
        int was = port.force;
        port.force = law;
        return allowed(was);
    }

    // ---- what is done, and undone

    public int sign(int cat, int ship) {
        return told(doings.act(TO_SIGN, cat, ship));
    }

    public int die(int cat, int next) {
        return told(doings.act(TO_DIE, cat, next));
    }

    public int clip(int cat, int ear) {
        return told(doings.act(TO_CLIP, cat, ear));
    }

    public int pass() {
        return told(doings.act(TO_PASS, 0, 0));
    }

    public int undo() {
        int undone = doings.takeBack();
        return undone == NONE ? refused(CANT_BE) : allowed(undone);
    }

    // ---- what is told on paper

    public long had(int cat, int n) {
        if (!port.isHere(cat) || n < 0 || n > MOST_YEARS_HAD) {
            return NONE;
        }
        return fortune.hadBy(port, cat, n);
    }

    public int next(int cat, int n) {
        if (!port.isHere(cat) || n < 0 || n > MOST_YEARS_HAD) {
            return NONE;
        }
        return fortune.bestNext(port, cat, n);
    }

    public long likely(int cat, int n) {
        if (!port.hasCat(cat) || n < 0 || n > MOST_YEARS_LIKELY) {
            return NONE;
        }
        return port.isHere(cat) ? fortune.chanceToLast(port, cat, n) : 0L;
    }

    public int seen(int doing) {
        if (doing < 0 || doing >= DOINGS_SHOWN) {
            return refused(BAD_NUMBER);
        }
        if (port.sights >= SEEN) {
            return refused(NO_ROOM);
        }
        port.seen[port.sights] = doing;
        port.sights++;
        return allowed(port.sights);
    }

    public int forget() {
        int had = port.sights;
        port.sights = 0;
        return had;
    }

    public int canBe(int cat) {
        return port.hasCat(cat) ? sight.livesItCanBe(port, cat) : NONE;
    }

    public int look(int cat, int what) {
        if (!port.hasCat(cat) || what < 0 || what > 1 || !sight.hasFoundYear(port, cat)) {
            return NONE;
        }
        return what == 0 ? sight.bestYear : sight.leftAtMost;
    }

    public int explained(int cat) {
        return port.isHere(cat) ? sight.fewestLives(port, cat) : NONE;
    }

    public int complete(int ship, int what) {
        if (!port.hasShip(ship) || what < 0 || what > 1) {
            return NONE;
        }
        int free = port.withoutShip() & ~asking.barredFrom(port, ship);
        int missing = port.missingOn(ship);
        int best = NONE;
        for (int set = 0; set < 1 << CATS; set++) {
            boolean completes = (set & ~free) == 0 && (missing & ~port.livesOf(set)) == 0;
            if (completes && (best == NONE || Integer.bitCount(set) < Integer.bitCount(best))) {
                best = set;
            }
        }
        return what == 0 && best != NONE ? Integer.bitCount(best) : best;
    }

    public long safe(int ship) {
        if (!port.hasShip(ship)) {
            return NONE;
        }
        long chance = CHANCE_PARTS;
        for (int cat = 0; cat < port.cats; cat++) {
            if (port.ship[cat] == ship) {
                asking.about(port, cat);
                chance = chance * (10 - asking.tells(DARES)) / 10;
            }
        }
        return chance;
    }

    public int frauds() {
        int bits = 0;
        for (int cat = 0; cat < port.cats; cat++) {
            boolean clipped = port.ear[cat] != NOT_CLIPPED;
            if (port.isHere(cat) && clipped && port.ear[cat] != port.life[cat]) {
                bits |= 1 << cat;
            }
        }
        return bits;
    }

    public int passing(int i) {
        sight.lookAhead(port);
        int twos = 0;
        for (int low = 0; low < port.cats; low++) {
            for (int high = low + 1; high < port.cats; high++) {
                if (sight.passForOneAnother(port, low, high)) {
                    if (twos == i) {
                        return 10 * low + high;
                    }
                    twos++;
                }
            }
        }
        return i == NONE ? twos : NONE;
    }

    public int unused() {
        return ALL_LIVES & ~port.livesOf((1 << CATS) - 1);
    }

    public int rich(int law) {
        if (law != NONE && !port.hasLaw(law)) {
            return NONE;
        }
        int all = 0;
        for (int cat = 0; cat < port.cats; cat++) {
            if (port.isHere(cat)) {
                asking.about(port, cat);
                asking.law = port.lawOf(law);
                all += asking.tells(EARNS);
            }
        }
        return all;
    }

    public int years(int seed, int n) {
        if (seed < 0 || seed > MOST_SEED || n < 1 || n > MOST_YEARS_DRAWN) {
            return refused(BAD_NUMBER);
        }
        if (port.cats == 0) {
            return refused(CANT_BE);
        }
        behindYears.copyFrom(port);
        return allowed(fortune.drawYears(behindYears, seed, n));
    }

    public int drawn(int cat, int what) {
        if (!behindYears.hasCat(cat)) {
            return NONE;
        }
        switch (what) {
            case 0: return behindYears.life[cat];
            case 1: return Integer.bitCount(behindYears.yet[cat]);
            case 2: return behindYears.gold[cat];
            default: return NONE;
        }
    }

    // ---- IMAGES, counts

    public int image(int k) {
        if (k < 0 || k >= IMAGES) {
            return refused(BAD_NUMBER);
        }
        if (images[k] == null) {
            images[k] = new Port();
        }
        images[k].copyFrom(port);
        return allowed(0);
    }

    public int back(int k) {
        if (k < 0 || k >= IMAGES) {
            return refused(BAD_NUMBER);
        }
        if (images[k] == null) {
            return refused(NO_SUCH);
        }
        port.copyFrom(images[k]);
        doings.forgetPast();
        return allowed(0);
    }

    public int count(int what) {
        switch (what) {
            case 0: return port.cats;
            case 1: return port.howManyAlive();
            case 2: return port.ships;
            case 3: return port.sights;
            case 4: return port.laws;
            case 5: return doings.howManyKept();
            case 6: return tape.size;
            case 7: return refusals[-BAD_NUMBER];
            case 8: return refusals[-NO_SUCH];
            case 9: return refusals[-CANT_BE];
            case 10: return refusals[-NO_ROOM];
            case 11: return refusals[-BAD_TEXT];
            case 12: return port.force;
            case 13: return port.terms[YEAR];
            case 14: return port.terms[DRAYS];
            case 15: return port.terms[MOOD];
            case 16: return port.allGold();
            default: return NONE;
        }
    }

    public int status() {
        return refusedBy;
    }

    private int allowed(int answer) {
        refusedBy = 0;
        return answer;
    }

    private int refused(int by) {
        refusedBy = by;
        if (by < 0 && -by < REFUSAL_KINDS) {
            refusals[-by]++;
        }
        return by;
    }

    /** For answers that are below 0 only when the call is REFUSED. */
    private int told(int answer) {
        return answer < 0 ? refused(answer) : allowed(answer);
    }

    private static boolean isLife(int life) {
        return life >= 0 && life < LIVES;
    }

    private static boolean hasBit(int bits, int number) {
        return (bits >> number & 1) == 1;
    }

    /** NONE, if there is no LIFE among these. */
    private static int lowestOf(int lives) {
        for (int life = 0; life < LIVES; life++) {
            if (hasBit(lives, life)) {
                return life;
            }
        }
        return NONE;
    }

    /** All that IMAGES keep. */
    private static final class Port {
        private static final int ROW_SIZE = 1 + 5 * CATS;

        int cats;
        final int[] life;
        final int[] yet;
        final int[] ear;
        final int[] gold;
        final int[] ship;
        int ships;
        final int[] needs;
        int sights;
        final int[] seen;
        final int[] terms;
        int laws;
        final Text[] law;
        int force;

        Port() {
            life = new int[CATS];
            yet = new int[CATS];
            ear = new int[CATS];
            gold = new int[CATS];
            ship = new int[CATS];
            needs = new int[SHIPS];
            seen = new int[SEEN];
            terms = new int[TERMS];
            terms[DRAYS] = 1;
            law = new Text[LAWS];
            force = NONE;
        }

        boolean hasCat(int cat) {
            return cat >= 0 && cat < cats;
        }

        /** Whether there is such a CAT and it is not GONE. */
        boolean isHere(int cat) {
            return hasCat(cat) && life[cat] != NONE;
        }

        boolean hasShip(int number) {
            return number >= 0 && number < ships;
        }

        boolean hasLaw(int number) {
            return number >= 0 && number < laws;
        }

        /** The LAW of a number; null for NONE. */
        Text lawOf(int number) {
            return number >= 0 && number < laws ? law[number] : null;
        }

        /** Asked only while there is room, as the two that follow. */
        int addCat(int atLife, int livesYet, int itsEar) {
            int number = cats;
            cats++;
            life[number] = atLife;
            yet[number] = livesYet;
            ear[number] = itsEar;
            gold[number] = 0;
            ship[number] = NONE;
            return number;
        }

        int addShip(int itNeeds) {
            int number = ships;
            ships++;
            needs[number] = itNeeds;
            return number;
        }

        int addLaw(Text text) {
            int number = laws;
            laws++;
            law[number] = text;
            return number;
        }

        int spentBy(int cat) {
            int atOne = life[cat] == NONE ? 0 : 1;
            return LIVES - Integer.bitCount(yet[cat]) - atOne;
        }

        int howManyAlive() {
            int alive = 0;
            for (int cat = 0; cat < cats; cat++) {
                if (life[cat] != NONE) {
                    alive++;
                }
            }
            return alive;
        }

        int allGold() {
            int all = 0;
            for (int cat = 0; cat < cats; cat++) {
                all += gold[cat];
            }
            return all;
        }

        /** Who has signed on a SHIP, as bits. */
        int crewOf(int number) {
            int bits = 0;
            for (int cat = 0; cat < cats; cat++) {
                if (ship[cat] == number) {
                    bits |= 1 << cat;
                }
            }
            return bits;
        }

        /** CATS that are not GONE and have no SHIP, as bits. */
        int withoutShip() {
            int bits = 0;
            for (int cat = 0; cat < cats; cat++) {
                if (life[cat] != NONE && ship[cat] == NONE) {
                    bits |= 1 << cat;
                }
            }
            return bits;
        }

        /** The LIVES, as bits, that these CATS are AT. */
        int livesOf(int catBits) {
            int lives = 0;
            for (int cat = 0; cat < cats; cat++) {
                if (hasBit(catBits, cat) && life[cat] != NONE) {
                    lives |= 1 << life[cat];
                }
            }
            return lives;
        }

        int missingOn(int number) {
            return needs[number] & ~livesOf(crewOf(number));
        }

        /** A CAT that is not GONE dies; next is a LIFE it has YET, or anything if it has none. */
        void endLife(int cat, int next) {
            if (yet[cat] == 0) {
                life[cat] = NONE;
                ship[cat] = NONE;
            } else {
                life[cat] = next;
                yet[cat] &= ~(1 << next);
            }
        }

        /** The YEAR is the last term that changes, so that all are asked as it was ahead. */
        void passYear(Asking asking) {
            for (int cat = 0; cat < cats; cat++) {
                if (life[cat] != NONE) {
                    asking.about(this, cat);
                    gold[cat] = Math.min(MOST_GOLD, gold[cat] + asking.tells(EARNS));
                }
            }
            terms[YEAR]++;
        }

        void copyFrom(Port other) {
            cats = other.cats;
            System.arraycopy(other.life, 0, life, 0, CATS);
            System.arraycopy(other.yet, 0, yet, 0, CATS);
            System.arraycopy(other.ear, 0, ear, 0, CATS);
            System.arraycopy(other.gold, 0, gold, 0, CATS);
            System.arraycopy(other.ship, 0, ship, 0, CATS);
            ships = other.ships;
            System.arraycopy(other.needs, 0, needs, 0, SHIPS);
            sights = other.sights;
            System.arraycopy(other.seen, 0, seen, 0, SEEN);
            System.arraycopy(other.terms, 0, terms, 0, TERMS);
            laws = other.laws;
            for (int i = 0; i < LAWS; i++) {
                law[i] = other.law[i];
            }
            force = other.force;
        }

        /** Into a row of ROW_SIZE: all that sign, die, clip and pass can change. */
        void writeTo(int[] row) {
            row[0] = terms[YEAR];
            System.arraycopy(life, 0, row, 1, CATS);
            System.arraycopy(yet, 0, row, 1 + CATS, CATS);
            System.arraycopy(ear, 0, row, 1 + 2 * CATS, CATS);
            System.arraycopy(gold, 0, row, 1 + 3 * CATS, CATS);
            System.arraycopy(ship, 0, row, 1 + 4 * CATS, CATS);
        }

        void readFrom(int[] row) {
            terms[YEAR] = row[0];
            System.arraycopy(row, 1, life, 0, CATS);
            System.arraycopy(row, 1 + CATS, yet, 0, CATS);
            System.arraycopy(row, 1 + 2 * CATS, ear, 0, CATS);
            System.arraycopy(row, 1 + 3 * CATS, gold, 0, CATS);
            System.arraycopy(row, 1 + 4 * CATS, ship, 0, CATS);
        }
    }

    /** What can be undone: for each of the latest sixteen, how all stood ahead of it. */
    private static final class Past {
        private static final int ROOM = 16;

        private final int[][] rows;
        private final int[] kinds;
        private int newest;
        private int size;

        Past() {
            rows = new int[ROOM][Port.ROW_SIZE];
            kinds = new int[ROOM];
        }

        int howMany() {
            return size;
        }

        void empty() {
            size = 0;
        }

        /** A row that is kept over and over: the oldest goes when there is no room. */
        void keep(int kind, Port port) {
            newest = (newest + 1) % ROOM;
            size = Math.min(ROOM, size + 1);
            kinds[newest] = kind;
            port.writeTo(rows[newest]);
        }

        /** All is as it was ahead of the newest: its kind, NONE if nothing is kept. */
        int takeNewest(Port port) {
            if (size == 0) {
                return NONE;
            }
            int kind = kinds[newest];
            port.readFrom(rows[newest]);
            newest = (newest + ROOM - 1) % ROOM;
            size--;
            return kind;
        }

        void copyFrom(Past other) {
            for (int i = 0; i < ROOM; i++) {
                System.arraycopy(other.rows[i], 0, rows[i], 0, Port.ROW_SIZE);
            }
            System.arraycopy(other.kinds, 0, kinds, 0, ROOM);
            newest = other.newest;
            size = other.size;
        }
    }

    /** The bytes that texts and rows are read from. */
    private static final class Tape {
        private final int[] bytes;
        int size;

        Tape() {
            bytes = new int[TAPE_BYTES];
        }

        boolean hasRoomForFive() {
            return size + 20 <= TAPE_BYTES;
        }

        /** Four bytes, the highest first; asked only while there is room. */
        void add(int number) {
            for (int shift = 24; shift >= 0; shift -= 8) {
                bytes[size] = number >>> shift & 255;
                size++;
            }
        }

        int byteAt(int place) {
            return place >= 0 && place < size ? bytes[place] : 0;
        }
    }

    /**
     * A TEXT that was read: its CLAUSES, and their pieces as code for a stack, all in one row.
     * Piece p of a CLAUSE c is the code from cuts[3c + p] to cuts[3c + p + 1].
     */
    private static final class Text {
        int clauses;
        final int[] kinds;
        final int[] times;
        final int[] cuts;
        final int[] ops;
        final int[] withs;
        int size;
        private int pieces;

        Text(int room) {
            kinds = new int[CLAUSES];
            times = new int[CLAUSES];
            cuts = new int[CLAUSES * PIECES + 1];
            ops = new int[room];
            withs = new int[room];
        }

        void empty() {
            clauses = 0;
            size = 0;
            pieces = 0;
        }

        void beginClause(int kind) {
            if (clauses < CLAUSES) {
                kinds[clauses] = kind;
                times[clauses] = 1;
                clauses++;
            }
        }

        void setTimes(int many) {
            if (clauses > 0) {
                times[clauses - 1] = many;
            }
        }

        void endPiece() {
            if (pieces + 1 < cuts.length) {
                pieces++;
                cuts[pieces] = size;
            }
        }

        /** Where it stands; a TEXT has no more code than the TAPE has bytes, so there is room. */
        int add(int op, int with) {
            int place = size;
            if (place < ops.length) {
                ops[place] = op;
                withs[place] = with;
                size++;
            }
            return place;
        }

        /** What was added at a place leads to what will be added next. */
        void leadHere(int place) {
            if (place >= 0 && place < size) {
                withs[place] = size;
            }
        }

        /** One that later readings don't write over, no larger than it must be. */
        Text copied() {
            Text copy = new Text(size);
            copy.clauses = clauses;
            copy.size = size;
            copy.pieces = pieces;
            System.arraycopy(kinds, 0, copy.kinds, 0, CLAUSES);
            System.arraycopy(times, 0, copy.times, 0, CLAUSES);
            System.arraycopy(cuts, 0, copy.cuts, 0, cuts.length);
            System.arraycopy(ops, 0, copy.ops, 0, size);
            System.arraycopy(withs, 0, copy.withs, 0, size);
            return copy;
        }
    }

    /** Reads the TAPE's TOKENS as LAWS or ORDERS. No method steps over a TOKEN that can't go on there. */
    private static final class Reader {
        private static final int BLANK = 0;
        private static final int LETTER = 1;
        private static final int DIGIT = 2;
        private static final int OTHER = 3;
        private static final int TOO_LARGE = 1000000;

        final Text text;
        private final int[] words;
        private final int[] kinds;
        private final int[] places;
        private final int[] values;
        private int tokens;
        private int now;
        private int parts;
        private boolean ofLaws;

        Reader() {
            text = new Text(TAPE_BYTES);
            words = new int[VOCABULARY_SIZE];
            kinds = new int[TAPE_BYTES + 1];
            places = new int[TAPE_BYTES + 1];
            values = new int[TAPE_BYTES + 1];
            learnWords();
        }

        /** Words are compared as numbers, so that no text is made for a TOKEN. */
        private void learnWords() {
            int word = 0;
            for (int i = 0; i < VOCABULARY.length() && word < VOCABULARY_SIZE; i++) {
                char sign = VOCABULARY.charAt(i);
                if (sign == ' ') {
                    word++;
                } else {
                    words[word] = withLetter(words[word], sign);
                }
            }
        }

        private static int withLetter(int packed, int letter) {
            return packed * 32 + letter - 'a' + 1;
        }

        /** Reads the TAPE, which is empty then: FAULT's place, NONE without. */
        int read(Tape tape, boolean asLaws) {
            ofLaws = asLaws;
            split(tape);
            tape.size = 0;
            text.empty();
            now = 0;
            parts = 0;
            boolean goesOn = true;
            for (int clause = 0; clause < CLAUSES && goesOn; clause++) {
                boolean isClause = hasClause();
                if (isClause && kindNow() == END) {
                    return NONE;
                }
                goesOn = isClause && takes(';');
            }
            return now < tokens ? places[now] : NONE;
        }

        private void split(Tape tape) {
            tokens = 0;
            int before = BLANK;
            int letters = 0;
            for (int place = 0; place < tape.size; place++) {
                int sign = tape.byteAt(place);
                int sort = sortOf(sign);
                boolean goesOn = sort == before && (sort == LETTER || sort == DIGIT);
                if (sort != BLANK && !goesOn) {
                    addToken(sort == OTHER ? sign : sort == DIGIT ? NUMBER : UNKNOWN, place);
                    letters = 0;
                }
                if (sort == LETTER) {
                    letters++;
                    addLetter(sign, letters);
                } else if (sort == DIGIT) {
                    addDigit(sign - '0');
                }
                before = sort;
            }
            addToken(END, tape.size);
        }

        private static int sortOf(int sign) {
            if (sign == ' ') {
                return BLANK;
            }
            if (sign >= 'a' && sign <= 'z') {
                return LETTER;
            }
            return sign >= '0' && sign <= '9' ? DIGIT : OTHER;
        }

        private void addToken(int kind, int place) {
            if (tokens < kinds.length) {
                kinds[tokens] = kind;
                places[tokens] = place;
                values[tokens] = 0;
                tokens++;
            }
        }

        private void addDigit(int digit) {
            if (tokens > 0) {
                int last = tokens - 1;
                values[last] = Math.min(TOO_LARGE, values[last] * 10 + digit);
            }
        }

        /** A row of letters is known anew with each of them. */
        private void addLetter(int letter, int letters) {
            if (tokens > 0) {
                int last = tokens - 1;
                if (letters <= LONGEST_WORD) {
                    values[last] = withLetter(values[last], letter);
                    kinds[last] = wordOf(values[last]);
                } else {
                    kinds[last] = UNKNOWN;
                }
            }
        }

        private int wordOf(int packed) {
            for (int word = 0; word < VOCABULARY_SIZE; word++) {
                if (words[word] == packed) {
                    return FIRST_WORD + word;
                }
            }
            return UNKNOWN;
        }

        private int kindNow() {
            return now < tokens ? kinds[now] : END;
        }

        /** Steps over a TOKEN, if it is of this kind. */
        private boolean takes(int kind) {
            if (now + 1 >= tokens || kinds[now] != kind) {
                return false;
            }
            now++;
            return true;
        }

        /** Steps over a NUMBER within these bounds: what it is; NONE, if it is no such one. */
        private int takeNumber(int least, int most) {
            if (kindNow() != NUMBER || values[now] < least || values[now] > most) {
                return NONE;
            }
            int value = values[now];
            now++;
            return value;
        }

        private boolean hasClause() {
            int kind = kindNow();
            boolean begun = ofLaws ? hasLawDoing(kind) : hasOrderDoing(kind);
            if (!begun || takes(IF) && !hasTest(0)) {
                return false;
            }
            text.endPiece();
            return true;
        }

        private boolean hasLawDoing(int kind) {
            if (kind < EARNS || kind > BARS) {
                return false;
            }
            now++;
            text.beginClause(kind);
            if (kind != BARS && !hasSum(0)) {
                return false;
            }
            text.endPiece();
            text.endPiece();
            return true;
        }

        private boolean hasOrderDoing(int kind) {
            if (kind < SIGN || kind > PASS) {
                return false;
            }
            now++;
            text.beginClause(kind - SIGN);
            if (kind != PASS && !hasSum(0)) {
                return false;
            }
            text.endPiece();
            if (kind != PASS && !(takes(kind == SIGN ? ON : AS) && hasSum(0))) {
                return false;
            }
            text.endPiece();
            return !takes(TIMES) || hasTimes();
        }

        private boolean hasTimes() {
            int many = takeNumber(1, MOST_TIMES);
            text.setTimes(many);
            return many != NONE;
        }

        /**
         * "and" and "or" become leaps over what stands behind them. An "or" leads
         * behind all the "and"s of its right side: it is closed at the next "or" or the end.
         */
        private boolean hasTest(int depth) {
            if (!hasPlain(depth)) {
                return false;
            }
            int openOr = NONE;
            while (now < tokens && (kinds[now] == AND || kinds[now] == OR)) {
                int joint = kinds[now];
                if (joint == OR) {
                    text.leadHere(openOr);
                }
                int leap = text.add(joint, 0);
                now++;
                if (!hasPlain(depth)) {
                    return false;
                }
                if (joint == OR) {
                    openOr = leap;
                } else {
                    text.leadHere(leap);
                }
            }
            text.leadHere(openOr);
            return true;
        }

        private boolean hasPlain(int depth) {
            boolean turned = false;
            while (now < tokens && kinds[now] == NOT) {
                turned = !turned;
                now++;
            }
            boolean good = kindNow() == '(' ? hasBracketed(depth, ')') : hasComparison(depth);
            if (good && turned) {
                text.add(NOT, 0);
            }
            return good;
        }

        private boolean hasComparison(int depth) {
            if (!hasSum(depth)) {
                return false;
            }
            int sign = kindNow();
            if (sign != '<' && sign != '>' && sign != '=') {
                return false;
            }
            now++;
            if (!hasSum(depth)) {
                return false;
            }
            text.add(sign, 0);
            return true;
        }

        /** A TEST or a SUM between brackets; depth tells how many are open already. */
        private boolean hasBracketed(int depth, int close) {
            if (depth >= BRACKETS) {
                return false;
            }
            now++;
            return (close == ')' ? hasTest(depth + 1) : hasSum(depth + 1)) && takes(close);
        }

        private boolean hasSum(int depth) {
            if (!hasTerm(depth)) {
                return false;
            }
            while (now < tokens && (kinds[now] == '+' || kinds[now] == '-')) {
                int sign = kinds[now];
                now++;
                if (!hasTerm(depth)) {
                    return false;
                }
                text.add(sign, 0);
            }
            return true;
        }

        private boolean hasTerm(int depth) {
            if (!hasPart(depth)) {
                return false;
            }
            while (now < tokens && (kinds[now] == '*' || kinds[now] == '/' || kinds[now] == '%')) {
                int sign = kinds[now];
                now++;
                if (!hasPart(depth)) {
                    return false;
                }
                text.add(sign, 0);
            }
            return true;
        }

        private boolean hasPart(int depth) {
            int kind = kindNow();
            if (kind == '[') {
                return hasBracketed(depth, ']');
            }
            if (parts >= PARTS) {
                return false;
            }
            parts++;
            boolean isNumber = kind == NUMBER;
            int with = isNumber ? takeNumber(0, MOST_NUMBER) : ofLaws ? takeLawWord(kind) : takeOrderWord(kind);
            if (with == NONE) {
                return false;
            }
            text.add(isNumber ? NUMBER : WORD, with);
            return true;
        }

        /** Steps over a word of LAWS: where it stands among them; NONE, if it is none. */
        private int takeLawWord(int kind) {
            if (kind < CAT_WORD || kind > MOOD_WORD) {
                return NONE;
            }
            now++;
            return kind - CAT_WORD;
        }

        /** The same for a word of ORDERS, with the NUMBER that belongs to some of them. */
        private int takeOrderWord(int kind) {
            int place = placeOfOrderWord(kind);
            if (place == NONE) {
                return NONE;
            }
            now++;
            if (place < TOLD_LIFE) {
                return place;
            }
            int number = takeNumber(0, place == TOLD_CREW ? SHIPS - 1 : CATS - 1);
            return number == NONE ? NONE : place + number;
        }

        private static int placeOfOrderWord(int kind) {
            switch (kind) {
                case YEAR_WORD: return TOLD_YEAR;
                case DONE_WORD: return TOLD_DONE;
                case LATEST_WORD: return TOLD_LATEST;
                case ALIVE_WORD: return TOLD_ALIVE;
                case LIFE_WORD: return TOLD_LIFE;
                case GOLD_WORD: return TOLD_GOLD;
                case CREW_WORD: return TOLD_CREW;
                default: return NONE;
            }
        }
    }

    /** Runs a TEXT's code. */
    private static final class Reckoner {
        private final long[] stack;
        private int height;

        Reckoner() {
            stack = new long[PARTS];
        }

        /** What a piece of a CLAUSE tells by what its words are (a TEST: IS_SO or 0), or BROKEN. An "if" that isn't there is so. */
        long reckon(Text text, int clause, int piece, int[] words) {
            int at = clause * PIECES + piece;
            if (at < 0 || at + 1 >= text.cuts.length) {
                return BROKEN;
            }
            int end = Math.min(text.cuts[at + 1], text.size);
            height = 0;
            for (int i = text.cuts[at]; i < end; i++) {
                int op = text.ops[i];
                int with = text.withs[i];
                if (op == NUMBER) {
                    push(with);
                } else if (op == WORD) {
                    push(with >= 0 && with < words.length ? words[with] : NONE);
                } else if (op == OR || op == AND) {
                    boolean leaps = pop() == IS_SO == (op == OR);
                    if (leaps) {
                        push(op == OR ? IS_SO : 0L);
                        i = Math.max(i, with - 1);
                    }
                } else {
                    long last = pop();
                    long result = op == NOT ? IS_SO - last : joined(op, pop(), last);
                    if (result > MOST_SUM || result < -MOST_SUM) {
                        return BROKEN;
                    }
                    push(result);
                }
            }
            return height > 0 ? stack[0] : IS_SO;
        }

        private void push(long value) {
            if (height < stack.length) {
                stack[height] = value;
                height++;
            }
        }

        private long pop() {
            if (height <= 0) {
                return 0L;
            }
            height--;
            return stack[height];
        }

        private static long joined(int sign, long left, long right) {
            switch (sign) {
                case '+': return left + right;
                case '-': return left - right;
                case '*': return left * right;
                case '/': return right == 0L ? BROKEN : left / right;
                case '%': return right == 0L ? BROKEN : left % right;
                case '<': return left < right ? IS_SO : 0L;
                case '>': return left > right ? IS_SO : 0L;
                case '=': return left == right ? IS_SO : 0L;
                default: return BROKEN;
            }
        }
    }

    /** Asks a LAW (null: none) of a CAT AT a LIFE; about() comes first, the rest may be changed then. */
    private static final class Asking {
        private final Reckoner reckoner;
        private final int[] words;
        private int drays;
        Text law;

        Asking(Reckoner itsReckoner) {
            reckoner = itsReckoner;
            words = new int[LAW_WORDS];
        }

        /** All as it stands, by the LAW in FORCE. */
        void about(Port port, int cat) {
            law = port.lawOf(port.force);
            drays = port.terms[DRAYS];
            words[ASKED_CAT] = cat;
            words[ASKED_LIFE] = port.life[cat];
            words[ASKED_SPENT] = port.spentBy(cat);
            words[ASKED_EAR] = port.ear[cat];
            words[ASKED_GOLD] = port.gold[cat];
            words[ASKED_SHIP] = port.ship[cat];
            words[ASKED_YEAR] = port.terms[YEAR];
            words[ASKED_MOOD] = port.terms[MOOD];
        }

        void atLife(int life, int spent) {
            words[ASKED_LIFE] = life;
            words[ASKED_SPENT] = spent;
        }

        void inYear(int year) {
            words[ASKED_YEAR] = year;
        }

        /** What it EARNS, DARES or SHOWS: the last CLAUSE that HOLDS tells, so they are asked from the last on. */
        int tells(int kind) {
            int last = law == null ? NONE : law.clauses - 1;
            for (int clause = last; clause >= 0; clause--) {
                if (law.kinds[clause] == kind && reckoner.reckon(law, clause, IF_TEST, words) == IS_SO) {
                    long told = reckoner.reckon(law, clause, FIRST_SUM, words);
                    if (told != BROKEN) {
                        return (int) Math.max(0L, Math.min(told, mostOf(kind)));
                    }
                }
            }
            return kind == EARNS ? words[ASKED_LIFE] + 1 : kind == DARES ? drays : words[ASKED_LIFE];
        }

        private static long mostOf(int kind) {
            return kind == EARNS ? 99L : kind == DARES ? 10L : 9L;
        }

        boolean isBarred(Port port, int cat, int ship) {
            about(port, cat);
            words[ASKED_SHIP] = ship;
            int clauses = law == null ? 0 : law.clauses;
            for (int clause = 0; clause < clauses; clause++) {
                if (law.kinds[clause] == BARS && reckoner.reckon(law, clause, IF_TEST, words) == IS_SO) {
                    return true;
                }
            }
            return false;
        }

        /** CATS that are not GONE and are BARRED from a SHIP, as bits. */
        int barredFrom(Port port, int ship) {
            int bits = 0;
            for (int cat = 0; cat < port.cats; cat++) {
                if (port.isHere(cat) && isBarred(port, cat, ship)) {
                    bits |= 1 << cat;
                }
            }
            return bits;
        }
    }

    /** To sign, die, clip and pass, and to undo these. */
    private static final class Doings {
        final Port port;
        private final Asking asking;
        private final Past past;
        private final Port portBefore;
        private final Past pastBefore;

        Doings(Port itsPort, Asking itsAsking) {
            port = itsPort;
            asking = itsAsking;
            past = new Past();
            portBefore = new Port();
            pastBefore = new Past();
        }

        /** Does one: what it tells, or what it is REFUSED by. */
        int act(int kind, int first, int second) {
            switch (kind) {
                case TO_SIGN: return signOn(first, second);
                case TO_DIE: return dieAs(first, second);
                case TO_CLIP: return clipAs(first, second);
                default: break;
            }
            if (port.terms[YEAR] >= LAST_YEAR) {
                return CANT_BE;
            }
            past.keep(TO_PASS, port);
            port.passYear(asking);
            return port.terms[YEAR];
        }

        private int signOn(int cat, int ship) {
            if (!port.hasCat(cat) || !port.hasShip(ship)) {
                return NO_SUCH;
            }
            if (!port.isHere(cat) || port.ship[cat] == ship || asking.isBarred(port, cat, ship)) {
                return CANT_BE;
            }
            past.keep(TO_SIGN, port);
            port.ship[cat] = ship;
            return Integer.bitCount(port.crewOf(ship));
        }

        private int dieAs(int cat, int next) {
            if (next != NO_LIFE_NEXT && !isLife(next)) {
                return BAD_NUMBER;
            }
            if (!port.hasCat(cat)) {
                return NO_SUCH;
            }
            int yet = port.yet[cat];
            boolean hasIt = next == NO_LIFE_NEXT ? yet == 0 : hasBit(yet, next);
            if (!port.isHere(cat) || !hasIt) {
                return CANT_BE;
            }
            past.keep(TO_DIE, port);
            port.endLife(cat, next);
            return Integer.bitCount(port.yet[cat]);
        }

        private int clipAs(int cat, int ear) {
            if (ear < 0 || ear >= NOT_CLIPPED) {
                return BAD_NUMBER;
            }
            if (!port.hasCat(cat)) {
                return NO_SUCH;
            }
            int was = port.ear[cat];
            if (was == ear) {
                return CANT_BE;
            }
            past.keep(TO_CLIP, port);
            port.ear[cat] = ear;
            return was;
        }

        /** The latest is undone: its kind; NONE, if there is none. */
        int takeBack() {
            return past.takeNewest(port);
        }

        int howManyKept() {
            return past.howMany();
        }

        void forgetPast() {
            past.empty();
        }

        /** For ORDERS, which are run wholly or not at all: restore() brings back what was at the latest remember(). */
        void remember() {
            portBefore.copyFrom(port);
            pastBefore.copyFrom(past);
        }

        void restore() {
            port.copyFrom(portBefore);
            past.copyFrom(pastBefore);
        }
    }

    /** Runs ORDERS. */
    private static final class Orders {
        private final Doings doings;
        private final Reckoner reckoner;
        private final int[] words;
        private int done;
        private int latest;
        int stoppedAt;

        Orders(Doings itsDoings, Reckoner itsReckoner) {
            doings = itsDoings;
            reckoner = itsReckoner;
            words = new int[ORDER_WORDS];
            stoppedAt = NONE;
        }

        /** How many were run; CANT_BE, and all is as it was, if one could not be. */
        int run(Text text) {
            doings.remember();
            done = 0;
            latest = NONE;
            stoppedAt = NONE;
            for (int clause = 0; clause < text.clauses; clause++) {
                for (int time = 0; time < text.times[clause]; time++) {
                    if (!ranOnce(text, clause)) {
                        doings.restore();
                        stoppedAt = clause;
                        return CANT_BE;
                    }
                }
            }
            return done;
        }

        /** Whether it could be; one whose "if" is not so is not run, but that can be. */
        private boolean ranOnce(Text text, int clause) {
            tellWords(doings.port);
            if (reckoner.reckon(text, clause, IF_TEST, words) != IS_SO) {
                return true;
            }
            long first = reckoner.reckon(text, clause, FIRST_SUM, words);
            long second = reckoner.reckon(text, clause, SECOND_SUM, words);
            if (first == BROKEN || second == BROKEN) {
                return false;
            }
            int kind = text.kinds[clause];
            int told = doings.act(kind, (int) first, (int) second);
            if (told < 0) {
                return false;
            }
            done++;
            if (kind == TO_DIE) {
                latest = told;
            }
            return true;
        }

        private void tellWords(Port port) {
            words[TOLD_YEAR] = port.terms[YEAR];
            words[TOLD_DONE] = done;
            words[TOLD_LATEST] = latest;
            words[TOLD_ALIVE] = port.howManyAlive();
            for (int cat = 0; cat < CATS; cat++) {
                words[TOLD_LIFE + cat] = port.hasCat(cat) ? port.life[cat] : NONE;
                words[TOLD_GOLD + cat] = port.hasCat(cat) ? port.gold[cat] : NONE;
            }
            for (int ship = 0; ship < SHIPS; ship++) {
                words[TOLD_CREW + ship] = port.hasShip(ship) ? Integer.bitCount(port.crewOf(ship)) : NONE;
            }
        }
    }

    /** What years will bring: HAD, NEXT, LIKELY, YEARS with a SEED. */
    private static final class Fortune {
        private final Asking asking;
        /** By LIVES it has YET then (as bits) and the LIFE it is AT: what is HAD in so many YEARS as were added. */
        private final long[] hadWith;
        /** By LIFE and SPENT. */
        private final int[] earns;
        private final int[] dares;
        /** The LIVES in the order in which they are taken, and the chance to be AT each of them. */
        private final int[] daresInTurn;
        private final long[] chances;
        private int seed;

        Fortune(Asking itsAsking) {
            asking = itsAsking;
            hadWith = new long[(ALL_LIVES + 1) * LIVES];
            earns = new int[LIVES * LIVES];
            dares = new int[LIVES * LIVES];
            daresInTurn = new int[LIVES];
            chances = new long[LIVES + 1];
        }

        /** Asked of a CAT that is not GONE, as the two that follow. */
        long hadBy(Port port, int cat, int years) {
            reckonYears(port, cat, years);
            return hadWith[port.yet[cat] * LIVES + port.life[cat]];
        }

        int bestNext(Port port, int cat, int years) {
            reckonYears(port, cat, years);
            int yet = port.yet[cat];
            int best = NONE;
            long most = -1L;
            for (int life = 0; life < LIVES; life++) {
                if (hasBit(yet, life)) {
                    long had = hadWith[(yet & ~(1 << life)) * LIVES + life];
                    if (had > most) {
                        most = had;
                        best = life;
                    }
                }
            }
            return best;
        }

        private void reckonYears(Port port, int cat, int years) {
            int yet = port.yet[cat];
            int life = port.life[cat];
            askOfLives(port, cat);
            Arrays.fill(hadWith, 0L);
            for (int year = 0; year < years; year++) {
                addYear(yet, life, years - year);
            }
        }

        /** The LIFE it is AT as now, and those it has YET with more SPENT: no others come to pass. */
        private void askOfLives(Port port, int cat) {
            int spentNow = port.spentBy(cat);
            asking.about(port, cat);
            for (int life = 0; life < LIVES; life++) {
                for (int spent = spentNow; spent < LIVES; spent++) {
                    boolean isNow = life == port.life[cat] && spent == spentNow;
                    boolean comes = hasBit(port.yet[cat], life) && spent > spentNow;
                    if (isNow || comes) {
                        asking.atLife(life, spent);
                        earns[life * LIVES + spent] = asking.tells(EARNS);
                        dares[life * LIVES + spent] = asking.tells(DARES);
                    }
                }
            }
        }

        /**
         * From the most LIVES YET down: what a death leads to has fewer, and must still be as a YEAR ahead.
         * What takes more deaths than there are YEARS left is never asked.
         */
        private void addYear(int yetNow, int lifeNow, int deaths) {
            for (int yet = yetNow; yet >= 0; yet--) {
                if ((yet & ~yetNow) == 0 && Integer.bitCount(yetNow & ~yet) <= deaths) {
                    long byNext = mostByNext(yet);
                    int lives = yet == yetNow ? 1 << lifeNow : yetNow & ~yet;
                    addYearAt(yet, lives, byNext);
                }
            }
        }

        private long mostByNext(int yet) {
            long most = 0L;
            for (int next = 0; next < LIVES; next++) {
                if (hasBit(yet, next)) {
                    most = Math.max(most, hadWith[(yet & ~(1 << next)) * LIVES + next]);
                }
            }
            return most;
        }

        private void addYearAt(int yet, int lives, long byNext) {
            int spent = LIVES - 1 - Integer.bitCount(yet);
            for (int life = 0; life < LIVES && spent >= 0; life++) {
                if (hasBit(lives, life)) {
                    int place = yet * LIVES + life;
                    int dared = dares[life * LIVES + spent];
                    long earned = earns[life * LIVES + spent] * GOLD_PARTS;
                    hadWith[place] = earned + hadWith[place] * (10 - dared) / 10 + byNext * dared / 10;
                }
            }
        }

        long chanceToLast(Port port, int cat, int years) {
            int turns = askInTurn(port, cat);
            Arrays.fill(chances, 0L);
            chances[0] = CHANCE_PARTS;
            for (int year = 0; year < years; year++) {
                // from the last on, so that what comes to a LIFE is not taken on in the same YEAR
                for (int turn = turns - 1; turn >= 0; turn--) {
                    long part = chances[turn];
                    chances[turn] = part * (10 - daresInTurn[turn]) / 10;
                    chances[turn + 1] += part * daresInTurn[turn] / 10;
                }
            }
            long all = 0L;
            for (int turn = 0; turn < turns; turn++) {
                all += chances[turn];
            }
            return all;
        }

        /** What it DARES AT each LIFE in turn, the lowest it has YET next: how many there are. */
        private int askInTurn(Port port, int cat) {
            int spentNow = port.spentBy(cat);
            asking.about(port, cat);
            daresInTurn[0] = asking.tells(DARES);
            int turns = 1;
            for (int life = 0; life < LIVES && turns < LIVES; life++) {
                if (hasBit(port.yet[cat], life)) {
                    asking.atLife(life, spentNow + turns);
                    daresInTurn[turns] = asking.tells(DARES);
                    turns++;
                }
            }
            return turns;
        }

        /** Takes a port (on paper) so many YEARS on: how many deaths there were. */
        int drawYears(Port paper, int withSeed, int years) {
            seed = withSeed;
            int deaths = 0;
            for (int year = 0; year < years && paper.terms[YEAR] < LAST_YEAR; year++) {
                for (int cat = 0; cat < paper.cats; cat++) {
                    if (paper.isHere(cat) && isDrawnToDie(paper, cat)) {
                        paper.endLife(cat, lowestOf(paper.yet[cat]));
                        deaths++;
                    }
                }
                paper.passYear(asking);
            }
            return deaths;
        }

        private boolean isDrawnToDie(Port paper, int cat) {
            seed = (seed * 1103 + 12345) % 1000003;
            asking.about(paper, cat);
            return seed % 10 < asking.tells(DARES);
        }
    }

    /** What is made of what one sees: which LIVES it can be, when to look, who passes for whom. */
    private static final class Sight {
        private final Asking asking;
        /** By CAT and YEAR from now. */
        private final int[] shown;
        private final int[] alike;
        /** By how many LIVES were taken behind the first and by doing: the LIVES that SHOW it, as bits. */
        private final int[] fitting;
        /** By LIVES taken behind the first, as bits: those that can be the last of them, as bits. */
        private final int[] lastOnes;
        int bestYear;
        int leftAtMost;

        Sight(Asking itsAsking) {
            asking = itsAsking;
            shown = new int[CATS * YEARS_AHEAD];
            alike = new int[DOINGS_SHOWN];
            fitting = new int[LIVES * SEEN];
            lastOnes = new int[ALL_LIVES + 1];
        }

        int livesItCanBe(Port port, int cat) {
            int bits = ALL_LIVES;
            int spent = port.spentBy(cat);
            asking.about(port, cat);
            for (int i = 0; i < port.sights; i++) {
                bits &= livesThatShow(port, i, bits, spent);
            }
            return bits;
        }

        /** Those of some LIVES that with so many SPENT SHOW what was SEEN i-th; about() was asked ahead. */
        private int livesThatShow(Port port, int i, int lives, int spent) {
            int bits = 0;
            asking.inYear(port.terms[YEAR] + i);
            for (int life = 0; life < LIVES; life++) {
                if (hasBit(lives, life)) {
                    asking.atLife(life, spent);
                    if (asking.tells(SHOWS) == port.seen[i]) {
                        bits |= 1 << life;
                    }
                }
            }
            return bits;
        }

        /** Finds the YEAR to LOOK and what is left then at most; false, if it can be no LIFE at all. */
        boolean hasFoundYear(Port port, int cat) {
            int lives = livesItCanBe(port, cat);
            int spent = port.spentBy(cat);
            bestYear = 0;
            leftAtMost = LIVES + 1;
            for (int year = 0; year < YEARS_AHEAD; year++) {
                asking.inYear(port.terms[YEAR] + year);
                int most = mostAlike(lives, spent);
                if (most < leftAtMost) {
                    leftAtMost = most;
                    bestYear = year;
                }
            }
            return lives != 0;
        }

        private int mostAlike(int lives, int spent) {
            int most = 0;
            Arrays.fill(alike, 0);
            for (int life = 0; life < LIVES; life++) {
                if (hasBit(lives, life)) {
                    asking.atLife(life, spent);
                    int doing = asking.tells(SHOWS);
                    alike[doing]++;
                    most = Math.max(most, alike[doing]);
                }
            }
            return most;
        }

        /** EXPLAINED; asked of a CAT that is not GONE. */
        int fewestLives(Port port, int cat) {
            if (port.sights == 0) {
                return 0;
            }
            int yet = port.yet[cat];
            findFitting(port, cat);
            Arrays.fill(lastOnes, 0);
            lastOnes[0] = fitting[0];
            for (int i = 1; i < port.sights; i++) {
                addDoing(i, yet);
            }
            int fewest = NONE;
            for (int taken = 0; taken <= yet; taken++) {
                int lives = 1 + Integer.bitCount(taken);
                if (lastOnes[taken] != 0 && (fewest == NONE || lives < fewest)) {
                    fewest = lives;
                }
            }
            return fewest;
        }

        private void findFitting(Port port, int cat) {
            int spentNow = port.spentBy(cat);
            int behind = Integer.bitCount(port.yet[cat]);
            asking.about(port, cat);
            for (int taken = 0; taken <= behind && taken < LIVES; taken++) {
                int lives = taken == 0 ? 1 << port.life[cat] : port.yet[cat];
                // each LIFE ahead of it has one doing at least, so the earlier ones are never asked of it
                for (int i = taken; i < port.sights; i++) {
                    fitting[taken * SEEN + i] = livesThatShow(port, i, lives, spentNow + taken);
                }
            }
        }

        /** From the most LIVES taken down: those with one less must still be as a doing ahead. */
        private void addDoing(int i, int yet) {
            for (int taken = yet; taken > 0; taken--) {
                if ((taken & ~yet) == 0) {
                    int fits = fitting[Integer.bitCount(taken) * SEEN + i] & taken;
                    lastOnes[taken] = fits & (lastOnes[taken] | newlyTaken(taken));
                }
            }
            lastOnes[0] &= fitting[i];
        }

        /** Those of the LIVES taken without which the others could be, as bits. */
        private int newlyTaken(int taken) {
            int bits = 0;
            for (int life = 0; life < LIVES; life++) {
                if (hasBit(taken, life) && lastOnes[taken & ~(1 << life)] != 0) {
                    bits |= 1 << life;
                }
            }
            return bits;
        }

        /** What each CAT that is not GONE SHOWS in the YEARS from now on. */
        void lookAhead(Port port) {
            for (int cat = 0; cat < port.cats; cat++) {
                if (port.isHere(cat)) {
                    asking.about(port, cat);
                    for (int year = 0; year < YEARS_AHEAD; year++) {
                        asking.inYear(port.terms[YEAR] + year);
                        shown[cat * YEARS_AHEAD + year] = asking.tells(SHOWS);
                    }
                }
            }
        }

        /** By what the latest lookAhead() saw. */
        boolean passForOneAnother(Port port, int one, int other) {
            if (!port.isHere(one) || !port.isHere(other) || port.life[one] == port.life[other]) {
                return false;
            }
            for (int year = 0; year < YEARS_AHEAD; year++) {
                if (shown[one * YEARS_AHEAD + year] != shown[other * YEARS_AHEAD + year]) {
                    return false;
                }
            }
            return true;
        }
    }
}
