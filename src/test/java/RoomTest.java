import java.lang.management.ManagementFactory;

/**
 * All calls of one run live in one room of 600,000 objects and 7.3 million fields and elements.
 * No call but law() and the first image() of each may make anything, and a run stays far below that room.
 */
public final class RoomTest {
    private static final Due DUE = new Due();
    private static final long BYTES_OF_A_RUN = 4_000_000;
    private static final String LONG_LAW = "earns life" + "+1".repeat(47) + ";" + "bars;".repeat(10) + "bars if ("
            + "not(".repeat(7) + "1=1" + ")".repeat(8);

    private static final com.sun.management.ThreadMXBean HEAP =
            (com.sun.management.ThreadMXBean) ManagementFactory.getThreadMXBean();

    private static long made() {
        return HEAP.getCurrentThreadAllocatedBytes();
    }

    public static void main(String[] args) {
        runOfAll();
        lawsAndBack();
        for (int warm = 0; warm < 2; warm++) {
            DUE.about("room of calls");
            long before = made();
            NineLives x = new NineLives();
            long ofObject = made() - before;
            DUE.isSo("a new object makes " + ofObject + " bytes", ofObject < 100_000);
            fill(x);
            before = made();
            ask(x);
            long ofCalls = made() - before;
            DUE.isSo("the calls make " + ofCalls + " bytes", ofCalls < 2_000);
        }
        DUE.finish("RoomTest");
    }

    private static void fill(NineLives x) {
        for (int cat = 0; cat < 6; cat++) {
            x.cat(cat);
        }
        for (int ship = 0; ship < 3; ship++) {
            x.ship(7);
        }
        Due.law(x, "earns life*2+spent;dares life%5;shows [life+year]%4;bars if ship=2");
        x.force(0);
        for (int i = 0; i < 8; i++) {
            x.seen(i % 4);
        }
        x.image(0);
        x.image(1);
    }

    private static void ask(NineLives x) {
        x.feed(1885434739, 1885434739, 538976288, 538976288, 538976288);
        x.end(4);
        x.orders();
        for (int cat = 0; cat < 6; cat++) {
            x.had(cat, 9);
            x.next(cat, 9);
            x.likely(cat, 60);
            x.canBe(cat);
            x.look(cat, 0);
            x.explained(cat);
            x.of(cat, 6);
            x.sign(cat, 0);
            x.die(cat, 7);
            x.clip(cat, 3);
        }
        for (int ship = 0; ship < 3; ship++) {
            x.complete(ship, 0);
            x.safe(ship);
            x.at(ship, 3);
        }
        x.pass();
        x.undo();
        x.passing(-1);
        x.frauds();
        x.unused();
        x.rich(0);
        x.years(5, 60);
        x.drawn(0, 0);
        x.image(0);
        x.back(1);
        x.count(5);
        x.feed(0, 0, 0, 0, 0);
        x.row();
        x.terms(0, 5);
        x.forget();
        x.status();
    }

    private static void runOfAll() {
        DUE.about("room of a run");
        long before = made();
        NineLives x = new NineLives();
        fill(x);
        for (int i = 0; i < 4; i++) {
            ask(x);
        }
        DUE.isSo("a run makes " + (made() - before) + " bytes", made() - before < BYTES_OF_A_RUN);
    }

    /** The run that makes most: laws over and over, by going back. */
    private static void lawsAndBack() {
        DUE.about("room of laws");
        long before = made();
        NineLives x = new NineLives();
        x.image(0);
        for (int calls = 2; calls < 496; calls += LONG_LAW.length() / 20 + 5) {
            Due.law(x, LONG_LAW);
            DUE.due("fault", x.fault(), -1);
            x.back(0);
        }
        NineLives y = new NineLives();
        y.image(0);
        for (int calls = 1; calls < 508; calls += 4) {
            Due.law(y, "bars");
            y.back(0);
        }
        DUE.isSo("laws make " + (made() - before) + " bytes", made() - before < BYTES_OF_A_RUN);
    }
}
