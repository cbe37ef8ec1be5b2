/** Promises 10 to 15: start, single, join, joinBit, force, path. */
public final class PathsTest {
    private static final Due due = new Due();

    public static void main(String[] args) {
        start();
        startInOrderOfBits();
        single();
        join();
        joinRefusals();
        joinBit();
        force();
        path();
        pathsFull();
        wrongInputs();
        due.end();
    }

    private static void dueRow(Sky sky, int path, int... dots) {
        due.is("DOTS of PATH " + path, sky.path(path, 1), dots.length);
        for (int i = 0; i < dots.length; i++) {
            due.is("path(" + path + ", " + (10 + i) + ")", sky.path(path, 10 + i), dots[i]);
            due.is("about(" + dots[i] + ", 5)", sky.about(dots[i], 5), path);
        }
        due.is("path(" + path + ", " + (10 + dots.length) + ")", sky.path(path, 10 + dots.length), NightDots.NONE);
    }

    private static void start() {
        Sky sky = Skies.wanderer();
        due.is("no such pair, bad name", sky.start(1, 1000), NightDots.NONE);
        due.is("name 1000", sky.start(0, 1000), NightDots.BAD);
        due.is("name -1", sky.start(0, -1), NightDots.BAD);
        due.is("start(0, 999)", sky.start(0, 999), 0);
        dueRow(sky, 0, 0, 1, 2, 3);
        due.is("NAME", sky.path(0, 0), 999);
        due.is("start(0, 0) again", sky.start(0, 0), NightDots.NONE);
        due.is("acts", sky.count(7), 1);
    }

    private static void startInOrderOfBits() {
        Sky sky = new Sky();
        sky.dot(31, 0, 0, 0);
        sky.dot(5, 0, 0, 0);
        sky.dot(30, 0, 0, 0);
        sky.dot(4, 0, 0, 0);
        due.is("start", sky.start(0, 0), 0);
        dueRow(sky, 0, 2, 0, 3, 1);
    }

    private static void single() {
        Sky sky = Skies.wanderer();
        due.is("single(6, 1000)", sky.single(6, 1000), NightDots.NONE);
        due.is("single(0, 1000)", sky.single(0, 1000), NightDots.BAD);
        due.is("single(0, -1)", sky.single(0, -1), NightDots.BAD);
        due.is("single(0, 0)", sky.single(0, 0), 0);
        dueRow(sky, 0, 0);
        due.is("not FREE", sky.single(0, 1), NightDots.STATE);
        due.is("not FREE, bad name", sky.single(0, 1000), NightDots.BAD);
        due.is("another", sky.single(1, 1), 1);
        Sky far = new Sky();
        far.dot(0, 2010, -2010, 0);
        far.dot(0, 2011, 0, 0);
        far.dot(0, 0, -2011, 0);
        far.dot(1, 2030, 0, 0);
        far.dot(1, 2031, 0, 0);
        due.is("at the NET's end", far.single(0, 0), 0);
        due.is("x beyond it", far.single(1, 0), NightDots.STATE);
        due.is("y beyond it", far.single(2, 0), NightDots.STATE);
        due.is("at its end an hour later", far.single(3, 0), 1);
        due.is("beyond it an hour later", far.single(4, 0), NightDots.STATE);
        due.is("acts", far.count(7), 2);
    }

    private static void join() {
        Sky sky = Skies.wanderer();
        sky.start(0, 7);
        due.is("join(0, 5)", sky.join(0, 5), NightDots.STATE);
        due.is("join(0, 4)", sky.join(0, 4), 5);
        dueRow(sky, 0, 0, 1, 2, 3, 4);
        due.is("join(0, 4) again", sky.join(0, 4), NightDots.STATE);
        due.is("FREE", sky.count(1), 1);
    }

    private static void joinRefusals() {
        Sky sky = Skies.resting(8, 1);
        int far = sky.dot(20, 5000, 0, 0);
        due.is("8 DOTS", sky.path(0, 1), 8);
        due.is("a ninth", sky.join(0, 8), NightDots.FULL);
        due.is("a ninth that does not fit", sky.join(0, far), NightDots.STATE);
        due.is("a ninth that is not FREE", sky.join(0, 1), NightDots.STATE);
        due.is("a ninth that is none", sky.join(0, 10), NightDots.NONE);
        due.is("a PATH that is none", sky.join(1, 8), NightDots.NONE);
        due.is("DOTS still", sky.path(0, 1), 8);
        Sky unsound = Skies.wanderer();
        unsound.start(0, 0);
        unsound.force(0, 5);
        due.is("join to one that is not SOUND", unsound.join(0, 4), NightDots.STATE);
    }

    private static void joinBit() {
        Sky sky = Skies.wanderer();
        sky.single(4, 1);
        due.is("joinBit(0, 2)", sky.joinBit(0, 2), NightDots.NONE);
        due.is("joinBit(1, 0)", sky.joinBit(1, 0), NightDots.NONE);
        due.is("joinBit(0, 1)", sky.joinBit(0, 1), 3);
        dueRow(sky, 0, 4, 2, 3);
        due.is("joinBit(0, 0)", sky.joinBit(0, 0), 5);
        dueRow(sky, 0, 4, 2, 3, 0, 1);
        due.is("an act each", sky.count(7), 3);
        Sky seven = Skies.resting(7, 2);
        due.is("a BIT to seven", seven.joinBit(0, 0), NightDots.FULL);
        seven.dot(18, 150, 0, 0);
        seven.dot(19, 150, 0, 0);
        due.is("a BIT that fits by half", seven.joinBit(0, seven.bits() - 1), NightDots.STATE);
        Sky six = Skies.resting(6, 2);
        due.is("a BIT to six", six.joinBit(0, 0), 8);
        Sky turned = new Sky();
        turned.dot(9, 0, 0, 0);
        turned.dot(7, 0, 0, 0);
        turned.dot(8, 0, 0, 0);
        turned.single(2, 0);
        due.is("a BIT whose first DOT came later", turned.joinBit(0, 0), 3);
        dueRow(turned, 0, 2, 1, 0);
    }

    private static void force() {
        Sky sky = Skies.wanderer();
        sky.start(0, 7);
        due.is("force(0, 6)", sky.force(0, 6), NightDots.NONE);
        due.is("force(1, 5)", sky.force(1, 5), NightDots.NONE);
        due.is("force(0, 1)", sky.force(0, 1), NightDots.STATE);
        due.is("force(0, 5)", sky.force(0, 5), 5);
        dueRow(sky, 0, 0, 1, 2, 3, 5);
        due.is("SOUND", sky.path(0, 2), 0);
        due.is("force(0, 4)", sky.force(0, 4), 6);
        Sky eight = Skies.resting(8, 1);
        due.is("a ninth", eight.force(0, 8), NightDots.FULL);
        due.is("a ninth that is not FREE", eight.force(0, 0), NightDots.STATE);
    }

    private static void path() {
        Sky sky = Skies.wanderer();
        sky.single(0, 8);
        sky.single(1, 9);
        int[] want = {9, 1, 1, 0};
        for (int what = 0; what < want.length; what++) {
            due.is("path(1, " + what + ")", sky.path(1, what), want[what]);
        }
        for (int what = 4; what < 10; what++) {
            due.is("path(1, " + what + ")", sky.path(1, what), NightDots.NONE);
        }
        due.is("path(1, 10)", sky.path(1, 10), 1);
        due.is("path(1, 11)", sky.path(1, 11), NightDots.NONE);
        due.is("path(2, 0)", sky.path(2, 0), NightDots.NONE);
        sky.merge(0, 1);
        int[] gone = {9, 0, 0, 1};
        for (int what = 0; what < gone.length; what++) {
            due.is("GONE path(1, " + what + ")", sky.path(1, what), gone[what]);
        }
        due.is("GONE path(1, 10)", sky.path(1, 10), NightDots.NONE);
        due.is("join to a GONE one", sky.join(1, 4), NightDots.NONE);
        due.is("joinBit to a GONE one", sky.joinBit(1, 0), NightDots.NONE);
        due.is("force to a GONE one", sky.force(1, 4), NightDots.NONE);
    }

    private static void pathsFull() {
        Sky sky = new Sky();
        for (int i = 0; i < 13; i++) {
            sky.dot(24 * i, 0, 0, 0);
        }
        for (int night = 14; night < 16; night++) {
            sky.dot(24 * night, 0, 0, 0);
            sky.dot(24 * night + 1, 0, 0, 0);
        }
        for (int i = 0; i < 12; i++) {
            due.is("single " + i, sky.single(i, i), i);
        }
        due.is("a 13th", sky.single(12, 0), NightDots.FULL);
        due.is("a 13th, not FREE", sky.single(0, 0), NightDots.STATE);
        due.is("a 13th by start", sky.start(0, 0), NightDots.FULL);
        due.is("a 13th by start, bad name", sky.start(0, 1000), NightDots.BAD);
        due.is("a 13th by start, no such pair", sky.start(1, 0), NightDots.NONE);
        sky.undo();
        due.is("its number is not given again", sky.single(12, 0), NightDots.FULL);
        due.is("PATHS", sky.count(2), 11);
        due.is("PATHS ever", sky.count(3), 12);
    }

    private static void wrongInputs() {
        Refusals refusals = new Refusals(due, () -> {
            Sky sky = Skies.wanderer();
            sky.single(0, 3);
            return sky;
        });
        for (int wild : Skies.WILD) {
            refusals.is("start(" + wild + ", 0)", sky -> sky.start(wild, 0), NightDots.NONE);
            refusals.is("single(" + wild + ", 0)", sky -> sky.single(wild, 0), NightDots.NONE);
            refusals.is("join(" + wild + ", 1)", sky -> sky.join(wild, 1), NightDots.NONE);
            refusals.is("join(0, " + wild + ")", sky -> sky.join(0, wild), NightDots.NONE);
            refusals.is("joinBit(" + wild + ", 0)", sky -> sky.joinBit(wild, 0), NightDots.NONE);
            refusals.is("joinBit(0, " + wild + ")", sky -> sky.joinBit(0, wild), NightDots.NONE);
            refusals.is("force(" + wild + ", 1)", sky -> sky.force(wild, 1), NightDots.NONE);
            refusals.is("force(0, " + wild + ")", sky -> sky.force(0, wild), NightDots.NONE);
            refusals.is("path(" + wild + ", 0)", sky -> sky.path(wild, 0), NightDots.NONE);
            refusals.is("path(0, " + wild + ")", sky -> sky.path(0, wild), NightDots.NONE);
        }
    }
}
