/** Promises 19 and 20: fit, miss. */
public final class FitTest {
    private static final Due due = new Due();

    public static void main(String[] args) {
        exactLine();
        fractions();
        noLine();
        greatNumbers();
        wrongInputs();
        due.end();
    }

    private static void dueFraction(String what, long top, long below, long wantTop, long wantBelow) {
        due.is(what + ", above", top, wantTop);
        due.is(what + ", below", below, wantBelow);
    }

    private static void dueFit(NightDots sky, int axis, int what, long top, long below) {
        dueFraction("fit(0, " + axis + ", " + what + ")", sky.fit(0, axis, what, 0), sky.fit(0, axis, what, 1), top, below);
    }

    private static void dueMiss(NightDots sky, int i, int axis, long top, long below) {
        dueFraction("miss(0, " + i + ", " + axis + ")", sky.miss(0, i, axis, 0), sky.miss(0, i, axis, 1), top, below);
    }

    private static void exactLine() {
        NightDots sky = Skies.wanderer();
        sky.start(0, 7);
        sky.join(0, 4);
        dueFit(sky, 0, 0, 50, 1);
        dueFit(sky, 0, 1, 5, 1);
        dueFit(sky, 1, 0, 70, 1);
        dueFit(sky, 1, 1, -2, 1);
        for (int i = 0; i < 5; i++) {
            dueMiss(sky, i, 0, 0, 1);
            dueMiss(sky, i, 1, 0, 1);
        }
        due.is("miss of DOT 5", sky.miss(0, 5, 0, 0), NightDots.NO);
    }

    /** x: 0, 1, 1 at the HOURS 0, 1, 2: v = 1/2, p = 1/6; y: 0, -1, -1. */
    private static void fractions() {
        NightDots sky = new NightDots();
        sky.dot(0, 0, 0, 0);
        sky.dot(1, 1, -1, 0);
        sky.dot(2, 1, -1, 0);
        sky.single(0, 0);
        sky.join(0, 1);
        sky.join(0, 2);
        dueFit(sky, 0, 0, 1, 6);
        dueFit(sky, 0, 1, 1, 2);
        dueFit(sky, 1, 0, -1, 6);
        dueFit(sky, 1, 1, -1, 2);
        for (int axis = 0; axis < 2; axis++) {
            dueMiss(sky, 0, axis, 1, 6);
            dueMiss(sky, 1, axis, 1, 3);
            dueMiss(sky, 2, axis, 1, 6);
        }
    }

    private static void noLine() {
        NightDots sky = new NightDots();
        sky.dot(9, 0, 0, 0);
        sky.dot(9, 1, 0, 0);
        sky.dot(9, 0, 1, 0);
        sky.dot(10, 0, 0, 0);
        sky.single(0, 0);
        due.is("of one DOT", sky.fit(0, 0, 0, 0), NightDots.NO);
        sky.join(0, 1);
        sky.join(0, 2);
        due.is("of one HOUR, p", sky.fit(0, 0, 0, 1), NightDots.NO);
        due.is("of one HOUR, v", sky.fit(0, 1, 1, 0), NightDots.NO);
        due.is("of one HOUR, miss", sky.miss(0, 0, 0, 0), NightDots.NO);
        sky.join(0, 3);
        dueFit(sky, 0, 1, -1, 3);
        NightDots empty = new NightDots();
        empty.dot(0, 2010, 0, 0);
        empty.single(0, 0);
        empty.net(10, 0);
        due.is("part", empty.part(0), 1);
        due.is("fit of no DOTS", empty.fit(0, 0, 0, 0), NightDots.NO);
        due.is("miss of no DOTS", empty.miss(0, 0, 0, 0), NightDots.NO);
    }

    /** The line need not be of THE NET, nor the PATH SOUND. */
    private static void greatNumbers() {
        NightDots sky = new NightDots();
        sky.dot(0, 0, 0, 0);
        sky.dot(400, 9000, -9000, 0);
        sky.dot(399, -9000, 9000, 0);
        sky.single(0, 0);
        sky.force(0, 1);
        sky.force(0, 2);
        due.is("SOUND", sky.path(0, 2), 0);
        // n = 3, S(t) = 799, S(x) = 0, S(tt) = 319201, S(tx) = 9000; v = 27000 / 319202
        dueFit(sky, 0, 1, 13500, 159601);
        dueFit(sky, 0, 0, -3595500, 159601);
        dueFit(sky, 1, 1, -13500, 159601);
        dueMiss(sky, 0, 0, 3595500, 159601);
        dueMiss(sky, 0, 1, 3595500, 159601);
        dueMiss(sky, 1, 0, 9000L * 159601 + 3595500 - 13500L * 400, 159601);
        dueMiss(sky, 2, 0, 9000L * 159601 - 3595500 + 13500L * 399, 159601);
    }

    private static void wrongInputs() {
        NightDots sky = Skies.wanderer();
        sky.start(0, 7);
        for (int wild : Skies.WILD) {
            due.is("fit, path " + wild, sky.fit(wild, 0, 0, 0), NightDots.NO);
            due.is("fit, axis " + wild, sky.fit(0, wild, 0, 0), NightDots.NO);
            due.is("fit, what " + wild, sky.fit(0, 0, wild, 0), NightDots.NO);
            due.is("fit, part " + wild, sky.fit(0, 0, 0, wild), NightDots.NO);
            due.is("miss, path " + wild, sky.miss(wild, 0, 0, 0), NightDots.NO);
            due.is("miss, i " + wild, sky.miss(0, wild, 0, 0), NightDots.NO);
            due.is("miss, axis " + wild, sky.miss(0, 0, wild, 0), NightDots.NO);
            due.is("miss, part " + wild, sky.miss(0, 0, 0, wild), NightDots.NO);
        }
        due.is("fit, axis 2", sky.fit(0, 2, 0, 0), NightDots.NO);
        due.is("fit, what 2", sky.fit(0, 0, 2, 0), NightDots.NO);
        due.is("fit, part 2", sky.fit(0, 0, 0, 2), NightDots.NO);
        due.is("miss, i 4", sky.miss(0, 4, 0, 0), NightDots.NO);
        due.is("miss, axis 2", sky.miss(0, 0, 2, 0), NightDots.NO);
        due.is("miss, part 2", sky.miss(0, 0, 0, 2), NightDots.NO);
        sky.undo();
        due.is("fit of a GONE one", sky.fit(0, 0, 0, 0), NightDots.NO);
        due.is("miss of a GONE one", sky.miss(0, 0, 0, 0), NightDots.NO);
    }
}
