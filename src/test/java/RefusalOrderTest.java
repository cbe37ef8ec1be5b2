import java.util.function.Supplier;
import java.util.function.ToLongFunction;

/** "REFUSALS, of several the first one told", which "change nothing": calls that are wrong in several ways at once. */
public final class RefusalOrderTest {
    private static final Due due = new Due();

    public static void main(String[] args) {
        dot();
        net();
        start();
        startOfTooManyBits();
        single();
        join();
        joinBit();
        force();
        pathsThatAreOne();
        merge();
        due.end();
    }

    private static void refused(String name, Supplier<Sky> way, ToLongFunction<Sky> call, long want) {
        new Refusals(due, way).is(name, call, want);
    }

    private static Sky sixty() {
        Sky sky = new Sky();
        for (int i = 0; i < 60; i++) {
            sky.dot(i, 0, 0, 0);
        }
        sky.single(0, 0);
        return sky;
    }

    /** "BAD; FULL." */
    private static void dot() {
        refused("bad HOUR, 60 DOTS", RefusalOrderTest::sixty, sky -> sky.dot(401, 0, 0, 0), NightDots.BAD);
        refused("bad x, 60 DOTS", RefusalOrderTest::sixty, sky -> sky.dot(5, 9001, 0, 0), NightDots.BAD);
        refused("bad y, 60 DOTS", RefusalOrderTest::sixty, sky -> sky.dot(5, 0, -9001, 0), NightDots.BAD);
        refused("bad WATCHER, 60 DOTS", RefusalOrderTest::sixty, sky -> sky.dot(5, 1, 0, 10), NightDots.BAD);
        refused("one that is there, bad WATCHER", RefusalOrderTest::sixty, sky -> sky.dot(5, 0, 0, -1), NightDots.BAD);
        refused("61st", RefusalOrderTest::sixty, sky -> sky.dot(5, 1, 0, 0), NightDots.FULL);
    }

    /** One of the two is bad: the other one is not taken either. */
    private static void net() {
        refused("bad GRID, good END", Skies::busy, sky -> sky.net(51, 20), NightDots.BAD);
        refused("good GRID, bad END", Skies::busy, sky -> sky.net(20, 201), NightDots.BAD);
        refused("both bad", Skies::busy, sky -> sky.net(0, -1), NightDots.BAD);
    }

    /** "NONE; BAD: name; FULL." */
    private static void start() {
        Supplier<Sky> full = () -> Skies.allPaths(4);
        refused("no pair, bad NAME, 12 PATHS", full, sky -> sky.start(1, 1000), NightDots.NONE);
        refused("no pair, 12 PATHS", full, sky -> sky.start(-1, 0), NightDots.NONE);
        refused("bad NAME, 12 PATHS", full, sky -> sky.start(0, -1), NightDots.BAD);
        refused("12 PATHS", full, sky -> sky.start(0, 0), NightDots.FULL);
        refused("no pair, bad NAME", Skies::busy, sky -> sky.start(1, 1000), NightDots.NONE);
        refused("bad NAME", Skies::busy, sky -> sky.start(0, 1000), NightDots.BAD);
    }

    private static Sky manyBits() {
        Sky sky = new Sky();
        for (int i = 0; i < 10; i++) {
            sky.dot(i, 0, 0, 0);
        }
        sky.dot(24, 0, 0, 0);
        sky.dot(25, 0, 0, 0);
        return sky;
    }

    private static void startOfTooManyBits() {
        refused("46 BITS", RefusalOrderTest::manyBits, sky -> sky.start(0, 0), NightDots.NONE);
        refused("46 BITS, bad NAME", RefusalOrderTest::manyBits, sky -> sky.start(0, 1000), NightDots.NONE);
        refused("46 BITS, i -1", RefusalOrderTest::manyBits, sky -> sky.start(-1, 0), NightDots.NONE);
        refused("46 BITS, i -2", RefusalOrderTest::manyBits, sky -> sky.pair(-2, 0), NightDots.NONE);
        refused("46 BITS, bad what", RefusalOrderTest::manyBits, sky -> sky.pair(0, 2), NightDots.NONE);
    }

    /** 12 PATHS, and the FREE DOTS 12 (it fits) and 13 (it does not). */
    private static Sky fullWithAFarOne() {
        Sky sky = Skies.allPaths(0);
        sky.dot(200, 0, 0, 0);
        sky.dot(0, 5000, 0, 0);
        return sky;
    }

    /** "NONE; BAD: name; STATE: not FREE, or no line of THE NET FITS it; FULL." */
    private static void single() {
        Supplier<Sky> full = RefusalOrderTest::fullWithAFarOne;
        refused("no DOT, bad NAME, 12 PATHS", full, sky -> sky.single(14, 1000), NightDots.NONE);
        refused("no DOT, 12 PATHS", full, sky -> sky.single(14, 0), NightDots.NONE);
        refused("bad NAME, not FREE, 12 PATHS", full, sky -> sky.single(0, 1000), NightDots.BAD);
        refused("bad NAME, no line, 12 PATHS", full, sky -> sky.single(13, -1), NightDots.BAD);
        refused("bad NAME, 12 PATHS", full, sky -> sky.single(12, 1000), NightDots.BAD);
        refused("not FREE, 12 PATHS", full, sky -> sky.single(0, 0), NightDots.STATE);
        refused("no line, 12 PATHS", full, sky -> sky.single(13, 0), NightDots.STATE);
        refused("12 PATHS", full, sky -> sky.single(12, 0), NightDots.FULL);
    }

    /** PATH 0 of `n` DOTS at rest; then the FREE DOTS n, n + 1 (they fit) and n + 2, n + 3 (they do not). */
    private static Sky crowded(int n) {
        Sky sky = Skies.resting(n, 2);
        sky.dot(240, 6000, 6000, 0);
        sky.dot(241, 6000, 6000, 0);
        sky.force(0, n);
        sky.undo();
        return sky;
    }

    /** "NONE; STATE: not FREE, or the HEAP would be empty; FULL: 8." */
    private static void join() {
        Supplier<Sky> eight = () -> crowded(8);
        refused("no PATH, no DOT", eight, sky -> sky.join(1, 12), NightDots.NONE);
        refused("no PATH, not FREE", eight, sky -> sky.join(1, 0), NightDots.NONE);
        refused("no PATH, does not fit", eight, sky -> sky.join(-1, 10), NightDots.NONE);
        refused("no DOT, 8 DOTS", eight, sky -> sky.join(0, 12), NightDots.NONE);
        refused("not FREE, 8 DOTS", eight, sky -> sky.join(0, 0), NightDots.STATE);
        refused("does not fit, 8 DOTS", eight, sky -> sky.join(0, 10), NightDots.STATE);
        refused("8 DOTS", eight, sky -> sky.join(0, 8), NightDots.FULL);
        refused("not SOUND", Skies::busy, sky -> sky.join(3, 6), NightDots.STATE);
        refused("of another PATH", Skies::busy, sky -> sky.join(3, 0), NightDots.STATE);
    }

    /** "likewise" */
    private static void joinBit() {
        Supplier<Sky> eight = () -> crowded(8);
        refused("no PATH, no BIT", eight, sky -> sky.joinBit(1, 2), NightDots.NONE);
        refused("no PATH, does not fit", eight, sky -> sky.joinBit(1, 1), NightDots.NONE);
        refused("no BIT, 8 DOTS", eight, sky -> sky.joinBit(0, 2), NightDots.NONE);
        refused("does not fit, 8 DOTS", eight, sky -> sky.joinBit(0, 1), NightDots.STATE);
        refused("8 DOTS", eight, sky -> sky.joinBit(0, 0), NightDots.FULL);
        Supplier<Sky> seven = () -> crowded(7);
        refused("does not fit, 7 DOTS", seven, sky -> sky.joinBit(0, 1), NightDots.STATE);
        refused("7 DOTS", seven, sky -> sky.joinBit(0, 0), NightDots.FULL);
        refused("not SOUND", Skies::busy, sky -> sky.joinBit(3, 0), NightDots.STATE);
    }

    /** "NONE; STATE: not FREE; FULL." */
    private static void force() {
        Supplier<Sky> eight = () -> crowded(8);
        refused("no PATH, no DOT", eight, sky -> sky.force(1, 12), NightDots.NONE);
        refused("no PATH, not FREE", eight, sky -> sky.force(1, 0), NightDots.NONE);
        refused("no DOT, 8 DOTS", eight, sky -> sky.force(0, 12), NightDots.NONE);
        refused("not FREE, 8 DOTS", eight, sky -> sky.force(0, 0), NightDots.STATE);
        refused("8 DOTS", eight, sky -> sky.force(0, 8), NightDots.FULL);
        refused("does not fit, 8 DOTS", eight, sky -> sky.force(0, 10), NightDots.FULL);
        refused("of another PATH", Skies::busy, sky -> sky.force(3, 0), NightDots.STATE);
    }

    /** "NONE; BAD: they are one." */
    private static void pathsThatAreOne() {
        refused("same of one that is none", Skies::busy, sky -> sky.same(4, 4), NightDots.NONE);
        refused("same of one that is -1", Skies::busy, sky -> sky.same(-1, -1), NightDots.NONE);
        refused("same of one that is GONE", Skies::busy, sky -> sky.same(2, 2), NightDots.NONE);
        refused("same of a SOUND one", Skies::busy, sky -> sky.same(0, 0), NightDots.BAD);
        refused("same of one that is not SOUND", Skies::busy, sky -> sky.same(3, 3), NightDots.BAD);
    }

    /** The PATHS 0 and 1 of five DOTS each, the last one of which does not fit. */
    private static Sky fiveAndFive() {
        Sky sky = Skies.twoResting(5, 4, 0);
        sky.dot(300, 9000, 0, 0);
        sky.force(1, 9);
        return sky;
    }

    /** "NONE; BAD; STATE: not THE SAME; FULL: more than 8 DOTS." */
    private static void merge() {
        refused("of one that is none", Skies::busy, sky -> sky.merge(4, 4), NightDots.NONE);
        refused("of one that is GONE", Skies::busy, sky -> sky.merge(2, 2), NightDots.NONE);
        refused("of one that is there, with none", Skies::busy, sky -> sky.merge(0, 4), NightDots.NONE);
        refused("of one that is not SOUND", Skies::busy, sky -> sky.merge(3, 3), NightDots.BAD);
        refused("of one with five DOTS", Skies::busy, sky -> sky.merge(0, 0), NightDots.BAD);
        refused("not THE SAME", Skies::busy, sky -> sky.merge(3, 0), NightDots.STATE);
        refused("not THE SAME, ten DOTS", RefusalOrderTest::fiveAndFive, sky -> sky.merge(0, 1), NightDots.STATE);
        refused("ten DOTS", () -> Skies.twoResting(5, 5, 0), sky -> sky.merge(0, 1), NightDots.FULL);
    }
}
