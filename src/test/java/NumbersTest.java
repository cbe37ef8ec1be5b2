import java.util.function.IntFunction;
import java.util.function.ToLongFunction;

/**
 * The bounds of all numbers: the last one that is allowed and the first one that is not, on both
 * sides. A number that is not allowed changes nothing.
 */
public final class NumbersTest {
    private static final Due due = new Due();
    private static final Refusals refusals = new Refusals(due, Skies::busy);

    public static void main(String[] args) {
        dotNumbers();
        paceNumbers();
        netNumbers();
        names();
        hoursAhead();
        startsOfTheNet();
        speedsOfTheNet();
        gridsOfTheNet();
        whats();
        partsAndAxes();
        numbersOfDots();
        numbersOfBitsAndPairs();
        numbersOfPaths();
        placesInARow();
        due.end();
    }

    /** The numbers next to a range and the wildest ones are all refused. */
    private static void refuseBeyond(String call, int least, int greatest, IntFunction<ToLongFunction<Sky>> with, long want) {
        for (int number : new int[] {least - 1, greatest + 1, Integer.MIN_VALUE, Integer.MAX_VALUE}) {
            refusals.is(call + " with " + number, with.apply(number), want);
        }
    }

    /** "an HOUR (0 .. 400), a place x, y (-9000 .. 9000 each), a WATCHER (0 .. 9)" */
    private static void dotNumbers() {
        int[][] allowed = {{0, 5, 5, 5}, {400, 5, 5, 5}, {5, -9000, 5, 5}, {5, 9000, 5, 5},
            {5, 5, -9000, 5}, {5, 5, 9000, 5}, {5, 5, 5, 0}, {6, 5, 5, 9}};
        Sky sky = new Sky();
        for (int i = 0; i < allowed.length; i++) {
            due.is("dot " + i + " at a bound", sky.dot(allowed[i][0], allowed[i][1], allowed[i][2], allowed[i][3]), i);
            for (int what = 0; what < 4; what++) {
                due.is("about(" + i + ", " + what + ")", sky.about(i, what), allowed[i][what]);
            }
        }
        refuseBeyond("HOUR", 0, 400, n -> s -> s.dot(n, 5, 5, 5), NightDots.BAD);
        refuseBeyond("x", -9000, 9000, n -> s -> s.dot(5, n, 5, 5), NightDots.BAD);
        refuseBeyond("y", -9000, 9000, n -> s -> s.dot(5, 5, n, 5), NightDots.BAD);
        refuseBeyond("WATCHER", 0, 9, n -> s -> s.dot(5, 5, 5, n), NightDots.BAD);
        refuseBeyond("WATCHER of one that is there", 0, 9, n -> s -> s.dot(10, 100, 50, n), NightDots.BAD);
    }

    /** "PACE 1 .. 20; 10 at first" */
    private static void paceNumbers() {
        Sky sky = new Sky();
        due.is("PACE at first", sky.pace(1), 10);
        due.is("PACE 1", sky.count(4), 1);
        due.is("pace(20) after 1", sky.pace(20), 1);
        due.is("PACE 20", sky.count(4), 20);
        refuseBeyond("PACE", 1, 20, n -> s -> s.pace(n), NightDots.BAD);
    }

    /** "GRID (1 .. 50; 10 at first)", "END (0 .. 200; 10 at first)" */
    private static void netNumbers() {
        int[][] allowed = {{1, 7}, {50, 7}, {7, 0}, {7, 200}};
        Sky sky = new Sky();
        due.is("GRID at first", sky.count(5), 10);
        due.is("END at first", sky.count(6), 10);
        for (int[] net : allowed) {
            due.is("net(" + net[0] + ", " + net[1] + ")", sky.net(net[0], net[1]), 0);
            due.is("GRID " + net[0], sky.count(5), net[0]);
            due.is("END " + net[1], sky.count(6), net[1]);
        }
        refuseBeyond("GRID", 1, 50, n -> s -> s.net(n, 7), NightDots.BAD);
        refuseBeyond("END", 0, 200, n -> s -> s.net(7, n), NightDots.BAD);
    }

    /** "a NAME (0 .. 999)" */
    private static void names() {
        for (int name : new int[] {0, 999}) {
            Sky sky = Skies.busy();
            due.is("single named " + name, sky.single(6, name), 4);
            due.is("NAME", sky.path(4, 0), name);
            sky.undo();
            due.is("start named " + name, sky.start(0, name), 5);
            due.is("NAME", sky.path(5, 0), name);
        }
        refuseBeyond("NAME of single", 0, 999, n -> s -> s.single(6, n), NightDots.BAD);
        refuseBeyond("NAME of start", 0, 999, n -> s -> s.start(0, n), NightDots.BAD);
    }

    /** "NO: .. HOUR not 0 .. 400" */
    private static void hoursAhead() {
        Sky sky = new Sky();
        sky.dot(0, 0, 0, 0);
        sky.single(0, 0);
        for (int what = 0; what < 4; what++) {
            int sign = what % 2 == 0 ? -1 : 1;
            due.is("ahead(0, 0, " + what + ")", sky.ahead(0, 0, what), sign * 10);
            due.is("ahead(0, 400, " + what + ")", sky.ahead(0, 400, what), sign * 8010);
        }
        refuseBeyond("HOUR of ahead", 0, 400, n -> s -> s.ahead(0, n, 0), NightDots.NO);
    }

    /** "p and q .. in -2000 .. 2000" */
    private static void startsOfTheNet() {
        Sky all = Skies.emptied(0);
        due.is("the least p", all.ahead(0, 0, 0), -2000);
        due.is("the greatest p", all.ahead(0, 0, 1), 2000);
        due.is("the least q", all.ahead(0, 0, 2), -2000);
        due.is("the greatest q", all.ahead(0, 0, 3), 2000);
        int[][] places = {{2010, 0, 0}, {-2010, 0, 1}, {0, 2010, 2}, {0, -2010, 3},
            {2011, 0, NightDots.STATE}, {-2011, 0, NightDots.STATE}, {0, 2011, NightDots.STATE}, {0, -2011, NightDots.STATE}};
        Sky sky = new Sky();
        for (int i = 0; i < places.length; i++) {
            sky.dot(0, places[i][0], places[i][1], 0);
            due.is("single at " + places[i][0] + ", " + places[i][1], sky.single(i, 0), places[i][2]);
        }
    }

    /** "v and w whole in -20 .. 20": two DOTS an hour apart, END 0 */
    private static void speedsOfTheNet() {
        int[][] ways = {{20, 0}, {-20, 0}, {0, 20}, {0, -20}};
        for (int[] way : ways) {
            for (int more = 0; more < 2; more++) {
                Sky sky = new Sky();
                sky.net(10, 0);
                sky.dot(0, 0, 0, 0);
                sky.dot(1, way[0] + more * Integer.signum(way[0]), way[1] + more * Integer.signum(way[1]), 0);
                sky.single(0, 0);
                due.is("speed " + way[0] + ", " + way[1] + " and " + more, sky.join(0, 1), more == 0 ? 2 : NightDots.STATE);
            }
        }
        Sky half = new Sky();
        half.net(1, 0);
        half.dot(0, 0, 0, 0);
        half.dot(2, 3, 0, 0);
        half.single(0, 0);
        due.is("a speed that is not whole", half.join(0, 1), NightDots.STATE);
        Sky all = Skies.emptied(0);
        due.is("the least at HOUR 400", all.ahead(0, 400, 0), -10000);
        due.is("the greatest at HOUR 400", all.ahead(0, 400, 3), 10000);
    }

    /** "p and q multiples of GRID": as many as there are in -2000 .. 2000, 0 among them */
    private static void gridsOfTheNet() {
        Sky sky = Skies.emptied(0);
        int[] grids = {1, 2, 3, 7, 30, 49, 50};
        for (int grid : grids) {
            long speeds = 41L;
            long starts = 2 * (2000 / grid) + 1;
            sky.net(grid, 0);
            due.is("heap with GRID " + grid, sky.heap(0), speeds * starts * speeds * starts);
            due.is("least with GRID " + grid, sky.ahead(0, 0, 0), -(2000 / grid * grid));
            due.is("greatest with GRID " + grid, sky.ahead(0, 0, 1), 2000 / grid * grid);
        }
    }

    /** "NONE there is no such .. what" */
    private static void whats() {
        refuseBeyond("what of about", 0, 5, n -> s -> s.about(0, n), NightDots.NONE);
        refuseBeyond("what of bit", 0, 1, n -> s -> s.bit(0, n), NightDots.NONE);
        refuseBeyond("what of pair", 0, 1, n -> s -> s.pair(0, n), NightDots.NONE);
        refuseBeyond("what of path", 0, 3, n -> s -> s.path(0, n), NightDots.NONE);
        refuseBeyond("what of path, DOTS", 10, 14, n -> s -> s.path(0, n), NightDots.NONE);
        refuseBeyond("what of ahead", 0, 3, n -> s -> s.ahead(0, 5, n), NightDots.NO);
        refuseBeyond("what of fit", 0, 1, n -> s -> s.fit(0, 0, n, 0), NightDots.NO);
        refuseBeyond("what of count", 0, 7, n -> s -> s.count(n), NightDots.NONE);
        int[] pathWhats = {8, 5, 1, 0, -1, -1, -1, -1, -1, -1, 4, 0, 1, 2, 3, -1};
        Sky sky = Skies.busy();
        for (int what = 0; what < pathWhats.length; what++) {
            due.is("path(0, " + what + ")", sky.path(0, what), pathWhats[what]);
        }
    }

    /** "axis 0 x, 1 y; what 0 p, 1 v; part 0 above the line, 1 below" */
    private static void partsAndAxes() {
        refuseBeyond("axis of fit", 0, 1, n -> s -> s.fit(0, n, 0, 0), NightDots.NO);
        refuseBeyond("part of fit", 0, 1, n -> s -> s.fit(0, 0, 0, n), NightDots.NO);
        refuseBeyond("axis of miss", 0, 1, n -> s -> s.miss(0, 0, n, 0), NightDots.NO);
        refuseBeyond("part of miss", 0, 1, n -> s -> s.miss(0, 0, 0, n), NightDots.NO);
        Sky sky = Skies.busy();
        long[] parts = {50, 1, 5, 1, 70, 1, -2, 1};
        for (int i = 0; i < parts.length; i++) {
            due.is("fit, number " + i, sky.fit(0, i / 4, i / 2 % 2, i % 2), parts[i]);
        }
    }

    /** "NONE there is no such DOT": the last one is DOT 10 */
    private static void numbersOfDots() {
        Sky sky = Skies.busy();
        due.is("HOUR of DOT 0", sky.about(0, 0), 10);
        due.is("HOUR of DOT 10", sky.about(10, 0), 200);
        refuseBeyond("DOT of about", 0, 10, n -> s -> s.about(n, 0), NightDots.NONE);
        refuseBeyond("DOT of single", 0, 10, n -> s -> s.single(n, 0), NightDots.NONE);
        refuseBeyond("DOT of join", 0, 10, n -> s -> s.join(0, n), NightDots.NONE);
        refuseBeyond("DOT of force", 0, 10, n -> s -> s.force(0, n), NightDots.NONE);
        refuseBeyond("DOT of tellOff", 0, 10, n -> s -> s.tellOff(n), NightDots.NONE);
        Sky ends = Skies.resting(1, 1);
        ends.undo();
        due.is("single of the first DOT", ends.single(0, 0), 1);
        due.is("tellOff of the last DOT", ends.tellOff(1), 1);
        due.is("force of the last DOT", ends.force(1, 1), 2);
        ends.undo();
        due.is("join of the last DOT", ends.join(1, 1), 2);
        ends.undo();
        due.is("single of the last DOT", ends.single(1, 0), 2);
    }

    /** "NONE there is no such .. BIT, .. i": there are the BITS 0 and 1 and the pair 0 */
    private static void numbersOfBitsAndPairs() {
        Sky sky = Skies.busy();
        due.is("bit(0, 0)", sky.bit(0, 0), 6);
        due.is("bit(0, 1)", sky.bit(0, 1), 7);
        due.is("bit(1, 0)", sky.bit(1, 0), 8);
        due.is("bit(1, 1)", sky.bit(1, 1), 9);
        due.is("pair(0, 0)", sky.pair(0, 0), 0);
        due.is("pair(0, 1)", sky.pair(0, 1), 1);
        sky.single(6, 0);
        due.is("joinBit of the last BIT, the only one", sky.joinBit(4, 0), 3);
        refuseBeyond("BIT of bit", 0, 1, n -> s -> s.bit(n, 0), NightDots.NONE);
        refuseBeyond("BIT of joinBit", 0, 1, n -> s -> s.joinBit(0, n), NightDots.NONE);
        refuseBeyond("i of pair", 0, 0, n -> s -> s.pair(n, 0), NightDots.NONE);
        refuseBeyond("i of start", 0, 0, n -> s -> s.start(n, 0), NightDots.NONE);
    }

    /** "NONE there is no such .. PATH": the last one is PATH 3 */
    private static void numbersOfPaths() {
        Sky sky = Skies.busy();
        due.is("NAME of PATH 0", sky.path(0, 0), 8);
        due.is("NAME of PATH 3", sky.path(3, 0), 3);
        due.is("heap of PATH 3", sky.heap(3), 0);
        refuseBeyond("PATH of join", 0, 3, n -> s -> s.join(n, 6), NightDots.NONE);
        refuseBeyond("PATH of joinBit", 0, 3, n -> s -> s.joinBit(n, 0), NightDots.NONE);
        refuseBeyond("PATH of force", 0, 3, n -> s -> s.force(n, 6), NightDots.NONE);
        refuseBeyond("PATH of path", 0, 3, n -> s -> s.path(n, 0), NightDots.NONE);
        refuseBeyond("PATH of heap", 0, 3, n -> s -> s.heap(n), -1);
        refuseBeyond("PATH of ahead", 0, 3, n -> s -> s.ahead(n, 5, 0), NightDots.NO);
        refuseBeyond("PATH of fit", 0, 3, n -> s -> s.fit(n, 0, 0, 0), NightDots.NO);
        refuseBeyond("PATH of miss", 0, 3, n -> s -> s.miss(n, 0, 0, 0), NightDots.NO);
        refuseBeyond("PATH of part", 0, 3, n -> s -> s.part(n), NightDots.NONE);
        refuseBeyond("the one PATH of same", 0, 3, n -> s -> s.same(n, 0), NightDots.NONE);
        refuseBeyond("the other PATH of same", 0, 3, n -> s -> s.same(0, n), NightDots.NONE);
        refuseBeyond("the one PATH of merge", 0, 3, n -> s -> s.merge(n, 0), NightDots.NONE);
        refuseBeyond("the other PATH of merge", 0, 3, n -> s -> s.merge(0, n), NightDots.NONE);
    }

    /** "10 + i: its DOT i", "MISS of DOT i of a PATH's row": PATH 0 has five DOTS, a full one eight */
    private static void placesInARow() {
        refuseBeyond("i of miss", 0, 4, n -> s -> s.miss(0, n, 0, 0), NightDots.NO);
        Sky five = Skies.busy();
        due.is("miss of the last of five", five.miss(0, 4, 0, 0), 0);
        Sky eight = Skies.resting(8, 0);
        due.is("the first of eight", eight.path(0, 10), 0);
        due.is("the last of eight", eight.path(0, 17), 7);
        due.is("none behind it", eight.path(0, 18), NightDots.NONE);
        due.is("miss of the last of eight", eight.miss(0, 7, 0, 0), 0);
        due.is("no miss behind it", eight.miss(0, 8, 0, 0), NightDots.NO);
    }
}
