/** Promises 16 to 18: heap, ahead, tellOff. */
public final class HeapTest {
    private static final Due due = new Due();

    public static void main(String[] args) {
        heapOfOneDot();
        heapLineByLine();
        heapOfAllTheNet();
        ahead();
        aheadHangsOnTheNet();
        tellOff();
        tellOffEdges();
        wrongInputs();
        due.end();
    }

    private static void heapOfOneDot() {
        Sky sky = new Sky();
        sky.dot(0, 0, 0, 0);
        sky.single(0, 0);
        due.is("three starts by 41 speeds, twice", sky.heap(0), 123L * 123L);
        sky.net(10, 9);
        due.is("END 9", sky.heap(0), 41L * 41L);
        sky.net(10, 0);
        due.is("END 0", sky.heap(0), 41L * 41L);
        sky.net(1, 200);
        due.is("GRID 1, END 200", sky.heap(0), 401L * 41L * 401L * 41L);
        due.is("none", sky.heap(1), -1);
        Sky edge = new Sky();
        edge.net(30, 200);
        edge.dot(0, 2000, -2000, 0);
        edge.single(0, 0);
        due.is("GRID 30: 1800 .. 1980", edge.heap(0), 7L * 41L * 7L * 41L);
    }

    /** Every line of THE NET is looked at by itself. */
    private static void heapLineByLine() {
        int[][] dots = {{10, 100, 50}, {12, 110, 46}, {40, 250, -10}};
        int[][] nets = {{50, 60}, {50, 10}, {43, 47}};
        Sky sky = new Sky();
        for (int[] dot : dots) {
            sky.dot(dot[0], dot[1], dot[2], 0);
        }
        sky.single(0, 0);
        sky.force(0, 1);
        sky.force(0, 2);
        for (int[] net : nets) {
            sky.net(net[0], net[1]);
            due.is("heap with GRID " + net[0] + ", END " + net[1], sky.heap(0), countLines(dots, net[0], net[1]));
        }
    }

    private static long countLines(int[][] dots, int grid, int end) {
        long found = 0;
        for (int p = -2000; p <= 2000; p++) {
            for (int q = -2000; q <= 2000; q++) {
                if (p % grid == 0 && q % grid == 0) {
                    found += countSpeeds(dots, p, q, end);
                }
            }
        }
        return found;
    }

    private static long countSpeeds(int[][] dots, int p, int q, int end) {
        long found = 0;
        for (int v = -20; v <= 20; v++) {
            for (int w = -20; w <= 20; w++) {
                boolean fits = true;
                for (int[] dot : dots) {
                    fits = fits && Math.abs(p + v * dot[0] - dot[1]) <= end && Math.abs(q + w * dot[0] - dot[2]) <= end;
                }
                found += fits ? 1 : 0;
            }
        }
        return found;
    }

    private static void heapOfAllTheNet() {
        Sky sky = Skies.emptied(0);
        sky.net(1, 0);
        due.is("all THE NET, GRID 1", sky.heap(0), 4001L * 41L * 4001L * 41L);
        due.is("AHEAD least", sky.ahead(0, 400, 0), -10000);
        due.is("AHEAD greatest", sky.ahead(0, 400, 1), 10000);
        sky.net(7, 0);
        due.is("all THE NET, GRID 7", sky.heap(0), 571L * 41L * 571L * 41L);
        due.is("AHEAD least, GRID 7", sky.ahead(0, 0, 2), -1995);
        due.is("AHEAD greatest, GRID 7", sky.ahead(0, 0, 3), 1995);
    }

    private static void ahead() {
        Sky sky = Skies.wanderer();
        sky.start(0, 7);
        long[] at70 = {390, 410, -80, -60};
        for (int what = 0; what < 4; what++) {
            due.is("ahead(0, 70, " + what + ")", sky.ahead(0, 70, what), at70[what]);
        }
        due.is("ahead(0, 70, 4)", sky.ahead(0, 70, 4), NightDots.NO);
        due.is("ahead(0, 70, -1)", sky.ahead(0, 70, -1), NightDots.NO);
        due.is("ahead(0, -1, 0)", sky.ahead(0, -1, 0), NightDots.NO);
        due.is("ahead(0, 401, 0)", sky.ahead(0, 401, 0), NightDots.NO);
        due.is("ahead(1, 70, 0)", sky.ahead(1, 70, 0), NightDots.NO);
        Sky one = new Sky();
        one.dot(0, 0, 0, 0);
        one.single(0, 0);
        due.is("hour 0 least", one.ahead(0, 0, 0), -10);
        due.is("hour 400 least", one.ahead(0, 400, 0), -8010);
        due.is("hour 400 greatest", one.ahead(0, 400, 3), 8010);
        sky.force(0, 5);
        due.is("not SOUND", sky.ahead(0, 70, 0), NightDots.NO);
        due.is("not SOUND: heap", sky.heap(0), 0);
    }

    /** x fits, y does not: the HEAP is empty, so there is nothing AHEAD by either axis. */
    private static void aheadHangsOnTheNet() {
        Sky sky = new Sky();
        sky.dot(0, 0, 0, 0);
        sky.dot(1, 0, 500, 0);
        sky.single(0, 0);
        sky.force(0, 1);
        due.is("heap", sky.heap(0), 0);
        due.is("SOUND", sky.path(0, 2), 0);
        due.is("ahead x", sky.ahead(0, 5, 0), NightDots.NO);
        due.is("ahead y", sky.ahead(0, 5, 2), NightDots.NO);
    }

    private static void tellOff() {
        Sky sky = Skies.wanderer();
        due.is("no PATHS", sky.tellOff(4), NightDots.NONE);
        sky.start(0, 7);
        due.is("tellOff(4)", sky.tellOff(4), 0);
        due.is("tellOff(5)", sky.tellOff(5), NightDots.NONE);
        due.is("not FREE", sky.tellOff(0), NightDots.NONE);
        due.is("none such", sky.tellOff(6), NightDots.NONE);
        int near = sky.dot(70, 405, -72, 0);
        sky.single(near, 1);
        due.is("to two", sky.tellOff(4), NightDots.NONE);
        sky.force(1, 5);
        due.is("one of the two not SOUND", sky.tellOff(4), 0);
        sky.undo();
        sky.undo();
        due.is("one of the two GONE", sky.tellOff(4), 0);
    }

    private static void tellOffEdges() {
        Sky sky = Skies.wanderer();
        sky.start(0, 7);
        int[][] places = {{380, -90, 0}, {420, -50, 0}, {379, -70, -1}, {421, -70, -1}, {400, -91, -1}, {400, -49, -1}};
        for (int[] place : places) {
            int dot = sky.dot(70, place[0], place[1], 0);
            due.is("tellOff at " + place[0] + ", " + place[1], sky.tellOff(dot), place[2]);
        }
    }

    private static void wrongInputs() {
        Sky sky = Skies.wanderer();
        sky.start(0, 7);
        for (int wild : Skies.WILD) {
            due.is("heap(" + wild + ")", sky.heap(wild), -1);
            due.is("ahead(" + wild + ", 0, 0)", sky.ahead(wild, 0, 0), NightDots.NO);
            due.is("ahead(0, 0, " + wild + ")", sky.ahead(0, 0, wild), NightDots.NO);
            due.is("tellOff(" + wild + ")", sky.tellOff(wild), NightDots.NONE);
        }
        due.is("ahead at a wild hour", sky.ahead(0, Integer.MAX_VALUE, 0), NightDots.NO);
        due.is("ahead at another", sky.ahead(0, Integer.MIN_VALUE, 0), NightDots.NO);
        sky.undo();
        due.is("heap of a GONE one", sky.heap(0), -1);
        due.is("ahead of a GONE one", sky.ahead(0, 0, 0), NightDots.NO);
        due.is("tellOff to a GONE one", sky.tellOff(4), NightDots.NONE);
    }
}
