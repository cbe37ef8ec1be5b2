/** Promises 1 to 5: a new object, dot, pace, net, about. */
public final class DotsTest {
    private static final Due due = new Due();

    public static void main(String[] args) {
        newObject();
        dotOrdinary();
        dotEdges();
        dotFull();
        pace();
        net();
        about();
        due.end();
    }

    private static void newObject() {
        Sky sky = new Sky();
        int[] want = {0, 0, 0, 0, 10, 10, 10, 0};
        for (int what = 0; what < want.length; what++) {
            due.is("new count(" + what + ")", sky.count(what), want[what]);
        }
        due.is("new bits()", sky.bits(), 0);
        due.is("new pairs()", sky.pairs(), 0);
        due.is("new about(0, 0)", sky.about(0, 0), NightDots.NONE);
        due.is("new path(0, 0)", sky.path(0, 0), NightDots.NONE);
        due.is("new path(0, 3)", sky.path(0, 3), NightDots.NONE);
        due.is("new undo()", sky.undo(), NightDots.STATE);
    }

    private static void dotOrdinary() {
        Sky sky = new Sky();
        due.is("first dot", sky.dot(30, 1, 2, 3), 0);
        due.is("second dot", sky.dot(31, 1, 2, 3), 1);
        due.is("other x", sky.dot(30, 2, 2, 3), 2);
        due.is("other y", sky.dot(30, 1, 1, 3), 3);
        due.is("the first one again", sky.dot(30, 1, 2, 9), 0);
        due.is("who told it first", sky.about(0, 3), 3);
        due.is("one again with a bad watcher", sky.dot(30, 1, 2, 10), NightDots.BAD);
        due.is("DOTS", sky.count(0), 4);
        due.is("FREE", sky.count(1), 4);
    }

    private static void dotEdges() {
        Sky sky = new Sky();
        due.is("least of all", sky.dot(0, -9000, -9000, 0), 0);
        due.is("greatest of all", sky.dot(400, 9000, 9000, 9), 1);
        due.is("hour -1", sky.dot(-1, 0, 0, 0), NightDots.BAD);
        due.is("hour 401", sky.dot(401, 0, 0, 0), NightDots.BAD);
        due.is("x -9001", sky.dot(0, -9001, 0, 0), NightDots.BAD);
        due.is("x 9001", sky.dot(0, 9001, 0, 0), NightDots.BAD);
        due.is("y -9001", sky.dot(0, 0, -9001, 0), NightDots.BAD);
        due.is("y 9001", sky.dot(0, 0, 9001, 0), NightDots.BAD);
        due.is("watcher -1", sky.dot(0, 0, 0, -1), NightDots.BAD);
        due.is("watcher 10", sky.dot(0, 0, 0, 10), NightDots.BAD);
        due.is("all wild", sky.dot(Integer.MIN_VALUE, Integer.MAX_VALUE, Integer.MIN_VALUE, Integer.MAX_VALUE), NightDots.BAD);
        due.is("DOTS", sky.count(0), 2);
    }

    private static void dotFull() {
        Sky sky = new Sky();
        for (int i = 0; i < 60; i++) {
            due.is("dot " + i, sky.dot(i, i, 0, 0), i);
        }
        due.is("a 61st", sky.dot(100, 0, 0, 0), NightDots.FULL);
        due.is("a bad 61st", sky.dot(401, 0, 0, 0), NightDots.BAD);
        due.is("one that is there", sky.dot(59, 59, 0, 4), 59);
        due.is("DOTS", sky.count(0), 60);
    }

    private static void pace() {
        Sky sky = new Sky();
        due.is("pace(1)", sky.pace(1), 10);
        due.is("pace(20)", sky.pace(20), 1);
        due.is("pace(0)", sky.pace(0), NightDots.BAD);
        due.is("pace(21)", sky.pace(21), NightDots.BAD);
        for (int wild : Skies.WILD) {
            due.is("pace(" + wild + ")", sky.pace(wild), NightDots.BAD);
        }
        due.is("PACE after", sky.count(4), 20);
        due.is("pace(20) again", sky.pace(20), 20);
    }

    private static void net() {
        Sky sky = new Sky();
        due.is("net(1, 0)", sky.net(1, 0), 0);
        due.is("GRID", sky.count(5), 1);
        due.is("END", sky.count(6), 0);
        due.is("net(50, 200)", sky.net(50, 200), 0);
        due.is("net(0, 10)", sky.net(0, 10), NightDots.BAD);
        due.is("net(51, 10)", sky.net(51, 10), NightDots.BAD);
        due.is("net(10, -1)", sky.net(10, -1), NightDots.BAD);
        due.is("net(10, 201)", sky.net(10, 201), NightDots.BAD);
        due.is("net(wild, wild)", sky.net(Integer.MIN_VALUE, Integer.MAX_VALUE), NightDots.BAD);
        due.is("GRID after", sky.count(5), 50);
        due.is("END after", sky.count(6), 200);
    }

    private static void about() {
        Sky sky = new Sky();
        sky.dot(47, -5, 6, 7);
        int[] want = {47, -5, 6, 7, 1, NightDots.NONE, NightDots.NONE};
        for (int what = 0; what < want.length; what++) {
            due.is("about(0, " + what + ")", sky.about(0, what), want[what]);
        }
        for (int wild : Skies.WILD) {
            due.is("about(" + wild + ", 0)", sky.about(wild, 0), NightDots.NONE);
            due.is("about(0, " + wild + ")", sky.about(0, wild), NightDots.NONE);
        }
        due.is("about(1, 0)", sky.about(1, 0), NightDots.NONE);
        int[] hours = {0, 23, 24, 47, 48, 400};
        int[] nights = {0, 0, 1, 1, 2, 16};
        for (int i = 0; i < hours.length; i++) {
            int dot = sky.dot(hours[i], 500, 0, 0);
            due.is("NIGHT of HOUR " + hours[i], sky.about(dot, 4), nights[i]);
        }
        sky.net(10, 200);
        due.is("single", sky.single(1, 0), 0);
        due.is("PATH of DOT 1", sky.about(1, 5), 0);
        due.is("PATH of DOT 2", sky.about(2, 5), NightDots.NONE);
    }
}
