/** Promises 6 to 9: bits, bit, pairs, pair. */
public final class BitsTest {
    private static final Due due = new Due();

    public static void main(String[] args) {
        bitsByPace();
        bitsOfOneNight();
        bitsInOrder();
        bitsOfFreeDots();
        pairsInOrder();
        pairsOfMixedNights();
        pairsHangOnTheNet();
        pairsHangOnPace();
        pairsOfUnlikeNights();
        tooManyBits();
        wrongInputs();
        due.end();
    }

    private static void bitsByPace() {
        Sky sky = new Sky();
        sky.dot(1, 0, 0, 0);
        sky.dot(3, 20, -20, 0);
        due.is("just within PACE", sky.bits(), 1);
        sky.pace(9);
        due.is("PACE too small", sky.bits(), 0);
        sky.pace(20);
        due.is("PACE great", sky.bits(), 1);
        Sky far = new Sky();
        far.dot(1, 0, 0, 0);
        far.dot(3, 21, 0, 0);
        far.dot(3, 0, -21, 0);
        due.is("x or y one too far", far.bits(), 0);
        far.pace(11);
        due.is("x or y near enough", far.bits(), 2);
    }

    private static void bitsOfOneNight() {
        Sky sky = new Sky();
        sky.dot(23, 0, 0, 0);
        sky.dot(24, 0, 0, 0);
        due.is("of unlike NIGHTS", sky.bits(), 0);
        sky.dot(24, 1, 0, 0);
        due.is("of one HOUR", sky.bits(), 0);
        sky.dot(47, 1, 0, 0);
        due.is("of one NIGHT", sky.bits(), 2);
    }

    private static void bitsInOrder() {
        Sky sky = new Sky();
        sky.dot(5, 0, 0, 0);
        sky.dot(3, 0, 0, 0);
        sky.dot(7, 0, 0, 0);
        sky.dot(1, 0, 0, 0);
        int[][] want = {{0, 2}, {1, 0}, {1, 2}, {3, 0}, {3, 1}, {3, 2}};
        due.is("bits()", sky.bits(), want.length);
        for (int i = 0; i < want.length; i++) {
            due.is("bit(" + i + ", 0)", sky.bit(i, 0), want[i][0]);
            due.is("bit(" + i + ", 1)", sky.bit(i, 1), want[i][1]);
        }
        due.is("bit(6, 0)", sky.bit(6, 0), NightDots.NONE);
    }

    private static void bitsOfFreeDots() {
        Sky sky = Skies.wanderer();
        due.is("all FREE", sky.bits(), 2);
        sky.single(0, 1);
        due.is("DOT 0 in a PATH", sky.bits(), 1);
        due.is("bit(0, 0)", sky.bit(0, 0), 2);
        due.is("bit(0, 1)", sky.bit(0, 1), 3);
        due.is("pairs()", sky.pairs(), 0);
        sky.undo();
        due.is("FREE again", sky.bits(), 2);
        due.is("pairs() again", sky.pairs(), 1);
    }

    /** Two BITS on each of three NIGHTS, all at rest. */
    private static Sky threeNights() {
        Sky sky = new Sky();
        for (int night = 2; night >= 0; night--) {
            sky.dot(24 * night, 0, 0, 0);
            sky.dot(24 * night + 1, 0, 0, 0);
        }
        return sky;
    }

    private static void pairsInOrder() {
        Sky sky = threeNights();
        due.is("pairs()", sky.pairs(), 3);
        int[][] want = {{0, 1}, {0, 2}, {1, 2}};
        for (int i = 0; i < want.length; i++) {
            due.is("pair(" + i + ", 0)", sky.pair(i, 0), want[i][0]);
            due.is("pair(" + i + ", 1)", sky.pair(i, 1), want[i][1]);
        }
        due.is("pair(3, 0)", sky.pair(3, 0), NightDots.NONE);
        sky.start(2, 0);
        due.is("pairs() after start", sky.pairs(), 0);
        sky.dot(400, 0, 0, 0);
        sky.dot(399, 0, 0, 0);
        due.is("pairs() after two more", sky.pairs(), 1);
    }

    /** The BITS 0 and 2 are of one NIGHT, 1 and 3 of another one. */
    private static void pairsOfMixedNights() {
        Sky sky = new Sky();
        int[] places = {0, 0, 200, 200};
        for (int hour = 0; hour < 2; hour++) {
            for (int i = 0; i < 4; i++) {
                sky.dot(24 * (i % 2) + hour, places[i], 0, 0);
            }
        }
        due.is("bits()", sky.bits(), 4);
        int[][] want = {{0, 1}, {0, 3}, {1, 2}, {2, 3}};
        due.is("pairs()", sky.pairs(), want.length);
        for (int i = 0; i < want.length; i++) {
            due.is("pair(" + i + ", 0)", sky.pair(i, 0), want[i][0]);
            due.is("pair(" + i + ", 1)", sky.pair(i, 1), want[i][1]);
        }
        due.is("start(2, 0)", sky.start(2, 0), 0);
        int[] row = {1, 5, 2, 6};
        for (int i = 0; i < row.length; i++) {
            due.is("DOT " + i, sky.path(0, 10 + i), row[i]);
        }
    }

    /** At speed 20, the fastest, the starts 0, -20, 23 and 3 would be met: one within END 22 of all. */
    private static void pairsHangOnTheNet() {
        Sky sky = new Sky();
        sky.dot(0, 0, 0, 0);
        sky.dot(1, 0, 0, 0);
        sky.dot(24, 503, 0, 0);
        sky.dot(25, 503, 0, 0);
        due.is("503 in 24 hours, END 10", sky.pairs(), 0);
        sky.net(1, 22);
        due.is("END 22", sky.pairs(), 1);
        sky.net(1, 21);
        due.is("END 21", sky.pairs(), 0);
        sky.net(50, 22);
        due.is("GRID 50", sky.pairs(), 0);
        sky.net(1, 22);
        sky.pace(1);
        due.is("PACE 1", sky.pairs(), 1);
    }

    private static void pairsHangOnPace() {
        Sky sky = Skies.wanderer();
        due.is("PACE 10", sky.pairs(), 1);
        sky.pace(4);
        due.is("PACE 4: no BITS", sky.pairs(), 0);
        due.is("PACE 4: pair(0, 0)", sky.pair(0, 0), NightDots.NONE);
        sky.pace(5);
        due.is("PACE 5", sky.pairs(), 1);
    }

    private static void pairsOfUnlikeNights() {
        Sky sky = new Sky();
        for (int hour = 0; hour < 4; hour++) {
            sky.dot(hour, 0, 0, 0);
        }
        due.is("bits() of one NIGHT", sky.bits(), 6);
        due.is("pairs() of one NIGHT", sky.pairs(), 0);
    }

    /** DOTS in a line at each of the HOURS 0 and 1, and one BIT on the next NIGHT. */
    private static Sky crowd(int first, int second) {
        Sky sky = new Sky();
        for (int i = 0; i < first; i++) {
            sky.dot(0, i, 0, 0);
        }
        for (int i = 0; i < second; i++) {
            sky.dot(1, i, 0, 0);
        }
        sky.dot(24, 0, 0, 0);
        sky.dot(25, 0, 0, 0);
        return sky;
    }

    private static void tooManyBits() {
        Sky sky = crowd(3, 13);
        due.is("crowd bits()", sky.bits(), 37);
        Sky most = crowd(3, 13);
        most.dot(26, 500, 0, 0);
        most.dot(27, 500, 0, 0);
        most.dot(28, 500, 0, 0);
        due.is("40 bits()", most.bits(), 40);
        due.isTrue("pairs() of 40", most.pairs() > 0);
        due.is("pair(0, 0) of 40", most.pair(0, 0), 0);
        most.dot(300, 0, 0, 0);
        most.dot(301, 0, 0, 0);
        due.is("41 bits()", most.bits(), 41);
        due.is("bit(40, 0)", most.bit(40, 0), most.count(0) - 2);
        due.is("pairs() of 41", most.pairs(), -1);
        due.is("pair(0, 0) of 41", most.pair(0, 0), NightDots.NONE);
        due.is("start(0, 0) of 41", most.start(0, 0), NightDots.NONE);
        most.single(0, 0);
        due.isTrue("pairs() with one FREE DOT less", most.pairs() > 0);
        Sky all = crowd(29, 29);
        due.is("bits() of 60 DOTS", all.bits(), 1 + countNear(29));
        due.is("the last of them", all.bit(all.bits() - 1, 1), 59);
        due.is("pairs() of very many", all.pairs(), -1);
    }

    /** How many i, k below n are no more than 10 apart. */
    private static int countNear(int n) {
        int near = 0;
        for (int i = 0; i < n; i++) {
            for (int k = 0; k < n; k++) {
                near += Math.abs(i - k) <= 10 ? 1 : 0;
            }
        }
        return near;
    }

    private static void wrongInputs() {
        Sky sky = Skies.wanderer();
        for (int wild : Skies.WILD) {
            due.is("bit(" + wild + ", 0)", sky.bit(wild, 0), NightDots.NONE);
            due.is("bit(0, " + wild + ")", sky.bit(0, wild), NightDots.NONE);
            due.is("pair(" + wild + ", 0)", sky.pair(wild, 0), NightDots.NONE);
            due.is("pair(0, " + wild + ")", sky.pair(0, wild), NightDots.NONE);
        }
        due.is("bit(2, 0)", sky.bit(2, 0), NightDots.NONE);
        due.is("bit(0, 2)", sky.bit(0, 2), NightDots.NONE);
        due.is("pair(1, 0)", sky.pair(1, 0), NightDots.NONE);
        due.is("pair(0, 2)", sky.pair(0, 2), NightDots.NONE);
    }
}
