import java.util.function.BiConsumer;

/** The edges of what belongs together: just near enough and one too far, by each axis and on both sides. */
public final class EdgesTest {
    private static final Due due = new Due();
    /** One step by an axis to a side. */
    private static final int[][] SIDES = {{1, 0}, {-1, 0}, {0, 1}, {0, -1}};

    public static void main(String[] args) {
        nights();
        dotsThatAreThere();
        bitsByPace();
        bitsByNight();
        bitsByHour();
        fitsByEnd();
        fitsBetweenStarts();
        heapByEnd();
        joinByEnd();
        joinOfABitByAllItsDots();
        pairsByEnd();
        pairsByNight();
        toldOffByEnd();
        toldOffWhereNoLineIs();
        toldOffAlone();
        sameByEnd();
        due.end();
    }

    /** "The NIGHT of a DOT is its HOUR by 24, cut." */
    private static void nights() {
        int[][] hoursAndNights = {{0, 0}, {23, 0}, {24, 1}, {47, 1}, {48, 2}, {383, 15}, {384, 16}, {399, 16}, {400, 16}};
        Sky sky = new Sky();
        for (int[] pair : hoursAndNights) {
            due.is("NIGHT of HOUR " + pair[0], sky.about(sky.dot(pair[0], 0, 0, 0), 4), pair[1]);
        }
    }

    /** "No two have one HOUR, x and y (whoever watched).", "WATCHER (who told it first)" */
    private static void dotsThatAreThere() {
        Sky sky = new Sky();
        sky.dot(5, 6, 7, 8);
        due.is("another WATCHER", sky.dot(5, 6, 7, 0), 0);
        due.is("the WATCHER", sky.about(0, 3), 8);
        due.is("another HOUR", sky.dot(6, 6, 7, 8), 1);
        due.is("another x", sky.dot(5, 7, 7, 8), 2);
        due.is("another y", sky.dot(5, 6, 6, 8), 3);
        due.is("x and y changed for each other", sky.dot(5, 7, 6, 8), 4);
        sky.single(0, 0);
        due.is("one that is in a PATH", sky.dot(5, 6, 7, 3), 0);
        due.is("it stays there", sky.about(0, 5), 0);
        due.is("DOTS", sky.count(0), 5);
        due.is("acts", sky.count(7), 1);
    }

    /** "with x and y each no more than PACE times the difference of the HOURS apart" */
    private static void bitsByPace() {
        for (int[] side : SIDES) {
            for (int pace : new int[] {1, 10, 20}) {
                for (int hours : new int[] {1, 23}) {
                    bitsByPace(side, pace, hours);
                }
            }
        }
        Sky corner = new Sky();
        corner.dot(2, 0, 0, 0);
        corner.dot(4, 20, -20, 0);
        corner.dot(4, 20, 21, 0);
        due.is("both at the edge, or one of the two beyond", corner.bits(), 1);
    }

    private static void bitsByPace(int[] side, int pace, int hours) {
        Sky sky = new Sky();
        sky.pace(pace);
        int far = pace * hours;
        sky.dot(24, 0, 0, 0);
        sky.dot(24 + hours, side[0] * (far + 1), side[1] * (far + 1), 0);
        due.is("one too far, PACE " + pace + ", " + hours + " hours", sky.bits(), 0);
        sky.dot(24 + hours, side[0] * far, side[1] * far, 0);
        due.is("just near enough, PACE " + pace + ", " + hours + " hours", sky.bits(), 1);
        due.is("its second DOT", sky.bit(0, 1), 2);
    }

    /** "two FREE DOTS of one NIGHT" */
    private static void bitsByNight() {
        int[][] hours = {{22, 23, 1}, {23, 24, 0}, {24, 47, 1}, {47, 48, 0}, {383, 384, 0}, {384, 400, 1}, {0, 23, 1}, {0, 24, 0}};
        for (int[] two : hours) {
            Sky sky = new Sky();
            sky.dot(two[0], 0, 0, 0);
            sky.dot(two[1], 0, 0, 0);
            due.is("bits of the HOURS " + two[0] + " and " + two[1], sky.bits(), two[2]);
        }
    }

    /** "of unlike HOURS", "The earlier DOT is its first one." */
    private static void bitsByHour() {
        Sky sky = new Sky();
        sky.dot(5, 0, 0, 0);
        sky.dot(5, 1, 0, 0);
        due.is("of one HOUR", sky.bits(), 0);
        sky.dot(4, 0, 0, 0);
        due.is("with an earlier one", sky.bits(), 2);
        int[] want = {2, 0, 2, 1};
        for (int i = 0; i < 4; i++) {
            due.is("bit(" + i / 2 + ", " + i % 2 + ")", sky.bit(i / 2, i % 2), want[i]);
        }
    }

    /** "at its HOUR x and y are each no more than END .. away from it": at HOUR 0, and at HOUR 400 beyond all lines */
    private static void fitsByEnd() {
        for (int[] side : SIDES) {
            for (int end : new int[] {0, 1, 10, 24}) {
                for (int start : new int[] {0, 50, 2000}) {
                    Sky sky = new Sky();
                    sky.net(50, end);
                    int edge = start + end;
                    sky.dot(0, side[0] * edge, side[1] * edge, 0);
                    sky.dot(0, side[0] * (edge + 1), side[1] * (edge + 1), 0);
                    due.is("single " + edge + " away, END " + end, sky.single(0, 0), 0);
                    due.is("single one more away, END " + end, sky.single(1, 0), NightDots.STATE);
                }
            }
            Sky most = new Sky();
            most.net(1, 200);
            most.dot(0, side[0] * 2200, side[1] * 2200, 0);
            most.dot(0, side[0] * 2201, side[1] * 2201, 0);
            most.dot(400, side[0] * 9000, side[1] * 9000, 0);
            due.is("single at 2200, END 200", most.single(0, 0), 0);
            due.is("single at 2201, END 200", most.single(1, 0), NightDots.STATE);
            due.is("single at 9000 at HOUR 400", most.single(2, 0), 1);
        }
    }

    /** "p and q multiples of GRID": midway between two of them END must be half of GRID */
    private static void fitsBetweenStarts() {
        for (int[] side : SIDES) {
            Sky sky = new Sky();
            sky.dot(0, side[0] * 25, side[1] * 25, 0);
            sky.net(50, 24);
            due.is("END 24, GRID 50", sky.single(0, 0), NightDots.STATE);
            sky.net(49, 24);
            due.is("END 24, GRID 49", sky.single(0, 0), 0);
            sky.undo();
            sky.net(50, 25);
            due.is("END 25, GRID 50", sky.single(0, 0), 1);
            due.is("heap", sky.heap(1), 2 * 41 * 41);
        }
    }

    private static void heapByEnd() {
        Sky sky = new Sky();
        sky.dot(0, 0, 0, 0);
        sky.single(0, 0);
        int[][] nets = {{1, 0, 1}, {1, 1, 3}, {1, 200, 401}, {10, 9, 1}, {10, 10, 3}, {10, 19, 3}, {10, 20, 5}, {50, 49, 1}, {50, 50, 3}};
        for (int[] net : nets) {
            long byAxis = 41L * net[2];
            sky.net(net[0], net[1]);
            due.is("heap with GRID " + net[0] + ", END " + net[1], sky.heap(0), byAxis * byAxis);
        }
    }

    /** PATH 0 of a DOT at (0, 0) at HOUR 0, with one start alone, GRID 50 and END 10; then what is added to it. */
    private static void withOneStart(BiConsumer<Sky, int[]> then) {
        for (int[] side : SIDES) {
            Sky sky = new Sky();
            sky.net(50, 10);
            sky.dot(0, 0, 0, 0);
            sky.single(0, 0);
            then.accept(sky, side);
        }
    }

    /** "only if the HEAP of all is not empty then": an hour later 20 by speed and 10 by END */
    private static void joinByEnd() {
        withOneStart((sky, side) -> {
            sky.dot(1, side[0] * 31, side[1] * 31, 0);
            sky.dot(1, side[0] * 30, side[1] * 30, 0);
            due.is("join, 31 away", sky.join(0, 1), NightDots.STATE);
            due.is("join, 30 away", sky.join(0, 2), 2);
            due.is("heap", sky.heap(0), 21);
            due.is("force, 31 away", sky.force(0, 1), 3);
            due.is("heap", sky.heap(0), 0);
        });
    }

    /** "or both DOTS of a BIT .. : only if the HEAP of all is not empty then" */
    private static void joinOfABitByAllItsDots() {
        withOneStart((sky, side) -> {
            sky.pace(20);
            sky.dot(1, side[0] * 30, side[1] * 30, 0);
            sky.dot(2, side[0] * 29, side[1] * 29, 0);
            sky.dot(2, side[0] * 30, side[1] * 30, 0);
            due.is("its first DOT alone", sky.join(0, 1), 2);
            sky.undo();
            due.is("its second DOT alone", sky.join(0, 2), 2);
            sky.undo();
            due.is("both", sky.joinBit(0, 0), NightDots.STATE);
            due.is("both, the second one farther", sky.joinBit(0, 1), 3);
        });
    }

    /** "the HEAP of whose four DOTS is not empty": from 0 at HOUR 0 to 490 = 24 * 20 + 10 at HOUR 24 */
    private static void pairsByEnd() {
        for (int[] side : SIDES) {
            for (int more = 0; more < 2; more++) {
                Sky sky = new Sky();
                sky.net(50, 10);
                sky.dot(0, 0, 0, 0);
                sky.dot(1, side[0] * 10, side[1] * 10, 0);
                sky.dot(24, side[0] * (490 + more), side[1] * (490 + more), 0);
                sky.dot(25, side[0] * 490, side[1] * 490, 0);
                due.is("pairs, " + more + " too far", sky.pairs(), 1 - more);
                due.is("start, " + more + " too far", sky.start(0, 0), more == 0 ? 0 : NightDots.NONE);
            }
        }
    }

    /** "of unlike NIGHTS": the last HOURS of one and the first of the next one are enough */
    private static void pairsByNight() {
        Sky sky = new Sky();
        int[] hours = {22, 23, 24, 25};
        for (int hour : hours) {
            sky.dot(hour, 0, 0, 0);
        }
        due.is("bits", sky.bits(), 2);
        due.is("pairs", sky.pairs(), 1);
        Sky one = new Sky();
        for (int hour : hours) {
            one.dot(hour - 2, 0, 0, 0);
        }
        due.is("bits of one NIGHT", one.bits(), 6);
        due.is("pairs of one NIGHT", one.pairs(), 0);
    }

    /** "each between AHEAD's least and greatest at its HOUR, END more on both sides" */
    private static void toldOffByEnd() {
        withOneStart((sky, side) -> {
            due.is("AHEAD at HOUR 3", sky.ahead(0, 3, side[0] != 0 ? 1 : 3), 60);
            sky.dot(3, side[0] * 70, side[1] * 70, 0);
            sky.dot(3, side[0] * 71, side[1] * 71, 0);
            due.is("tellOff, 70 away", sky.tellOff(1), 0);
            due.is("tellOff, 71 away", sky.tellOff(2), NightDots.NONE);
            sky.net(50, 11);
            due.is("tellOff, 71 away, END 11", sky.tellOff(2), 0);
            sky.net(50, 0);
            due.is("tellOff, 70 away, END 0", sky.tellOff(1), NightDots.NONE);
        });
    }

    /** Between the lines, but near none of them: TOLD OFF, but not to be joined. */
    private static void toldOffWhereNoLineIs() {
        withOneStart((sky, side) -> {
            sky.net(50, 0);
            sky.dot(10, side[0] * 5, side[1] * 5, 0);
            due.is("tellOff", sky.tellOff(1), 0);
            due.is("join", sky.join(0, 1), NightDots.STATE);
        });
    }

    /** "it alone": a second PATH that reaches it by END's last step is one too many */
    private static void toldOffAlone() {
        withOneStart((sky, side) -> {
            sky.dot(0, side[0] * 100, side[1] * 100, 0);
            int both = sky.dot(3, side[0] * 70, side[1] * 70, 0);
            sky.single(1, 0);
            due.is("to both", sky.tellOff(both), NightDots.NONE);
            sky.force(0, sky.dot(1, side[0] * 31, side[1] * 31, 0));
            due.is("the one is not SOUND", sky.tellOff(both), 1);
            sky.undo();
            int other = sky.dot(3, side[0] * 71, side[1] * 71, 0);
            due.is("to the other one alone", sky.tellOff(other), 1);
        });
    }

    /** "THE SAME are two PATHS if the HEAP of the DOTS of both is not empty." */
    private static void sameByEnd() {
        withOneStart((sky, side) -> {
            sky.dot(1, side[0] * 30, side[1] * 30, 0);
            sky.dot(1, side[0] * 31, side[1] * 31, 0);
            sky.net(50, 25);
            sky.single(1, 0);
            sky.single(2, 0);
            sky.net(50, 10);
            due.is("same, 30 away", sky.same(0, 1), 1);
            due.is("same, 31 away", sky.same(0, 2), 0);
            due.is("merge, 31 away", sky.merge(2, 0), NightDots.STATE);
            due.is("merge, 30 away", sky.merge(1, 0), 0);
        });
    }
}
