/** Promises 19 and 20: fit, miss. */
public final class FitTest {
    private static final Due due = new Due();

    public static void main(String[] args) {
        exactLine();
        fractions();
        twoDots();
        zeros();
        noLine();
        oneHourButForOne();
        greatNumbers();
        widestRows();
        wrongInputs();
        due.end();
    }

    private static void dueFraction(String what, long top, long below, long wantTop, long wantBelow) {
        due.is(what + ", above", top, wantTop);
        due.is(what + ", below", below, wantBelow);
    }

    private static void dueFit(Sky sky, int axis, int what, long top, long below) {
        dueFraction("fit(0, " + axis + ", " + what + ")", sky.fit(0, axis, what, 0), sky.fit(0, axis, what, 1), top, below);
    }

    private static void dueMiss(Sky sky, int i, int axis, long top, long below) {
        dueFraction("miss(0, " + i + ", " + axis + ")", sky.miss(0, i, axis, 0), sky.miss(0, i, axis, 1), top, below);
    }

    private static void exactLine() {
        Sky sky = Skies.wanderer();
        sky.start(0, 7);
        sky.join(0, 4);
        dueFit(sky, 0, 0, 50, 1);
        dueFit(sky, 0, 1, 5, 1);
        dueFit(sky, 1, 0, 70, 1);
        dueFit(sky, 1, 1, -2, 1);
        for (int i = 0; i < 5; i++) {
            dueMiss(sky, i, 0, 0, 1);
            dueMiss(sky, i, 1, 0, 1);
        }
        due.is("miss of DOT 5", sky.miss(0, 5, 0, 0), NightDots.NO);
    }

    /** x: 0, 1, 1 at the HOURS 0, 1, 2: v = 1/2, p = 1/6; y: 0, -1, -1. */
    private static void fractions() {
        Sky sky = new Sky();
        sky.dot(0, 0, 0, 0);
        sky.dot(1, 1, -1, 0);
        sky.dot(2, 1, -1, 0);
        sky.single(0, 0);
        sky.join(0, 1);
        sky.join(0, 2);
        dueFit(sky, 0, 0, 1, 6);
        dueFit(sky, 0, 1, 1, 2);
        dueFit(sky, 1, 0, -1, 6);
        dueFit(sky, 1, 1, -1, 2);
        for (int axis = 0; axis < 2; axis++) {
            dueMiss(sky, 0, axis, 1, 6);
            dueMiss(sky, 1, axis, 1, 3);
            dueMiss(sky, 2, axis, 1, 6);
        }
    }

    /** Two HOURS are enough for a line, next to each other or as far apart as can be; it misses neither DOT. */
    private static void twoDots() {
        int[][] hours = {{0, 1}, {399, 400}, {0, 400}};
        for (int[] two : hours) {
            Sky sky = new Sky();
            sky.dot(two[0], 0, 5, 0);
            sky.dot(two[1], 7, -2, 0);
            sky.single(0, 0);
            sky.force(0, 1);
            long apart = two[1] - two[0];
            dueFit(sky, 0, 1, 7, apart);
            dueFit(sky, 1, 1, -7, apart);
            dueFit(sky, 0, 0, two[0] == 0 ? 0 : -7 * 399, 1);
            dueFit(sky, 1, 0, two[0] == 0 ? 5 : 5 + 7 * 399, 1);
            for (int i = 0; i < 4; i++) {
                dueMiss(sky, i / 2, i % 2, 0, 1);
            }
        }
    }

    /** "(0 is 0 by 1)" */
    private static void zeros() {
        Sky sky = Skies.resting(8, 0);
        for (int axis = 0; axis < 2; axis++) {
            dueFit(sky, axis, 0, 0, 1);
            dueFit(sky, axis, 1, 0, 1);
            dueMiss(sky, 0, axis, 0, 1);
            dueMiss(sky, 7, axis, 0, 1);
        }
        Sky even = new Sky();
        even.dot(1, 4, -4, 0);
        even.dot(3, 4, -4, 0);
        even.dot(5, 7, -7, 0);
        even.dot(5, 1, -1, 0);
        even.single(0, 0);
        for (int i = 1; i < 4; i++) {
            even.join(0, i);
        }
        dueFit(even, 0, 0, 4, 1);
        dueFit(even, 0, 1, 0, 1);
        dueFit(even, 1, 0, -4, 1);
        dueFit(even, 1, 1, 0, 1);
        dueMiss(even, 0, 1, 0, 1);
        for (int axis = 0; axis < 2; axis++) {
            dueMiss(even, 2, axis, 3, 1);
            dueMiss(even, 3, axis, 3, 1);
        }
    }

    private static void noLine() {
        Sky sky = new Sky();
        sky.dot(9, 0, 0, 0);
        sky.dot(9, 1, 0, 0);
        sky.dot(9, 0, 1, 0);
        sky.dot(10, 0, 0, 0);
        sky.single(0, 0);
        due.is("of one DOT", sky.fit(0, 0, 0, 0), NightDots.NO);
        sky.join(0, 1);
        sky.join(0, 2);
        due.is("of one HOUR, p", sky.fit(0, 0, 0, 1), NightDots.NO);
        due.is("of one HOUR, v", sky.fit(0, 1, 1, 0), NightDots.NO);
        due.is("of one HOUR, miss", sky.miss(0, 0, 0, 0), NightDots.NO);
        sky.join(0, 3);
        dueFit(sky, 0, 1, -1, 3);
        Sky empty = new Sky();
        empty.dot(0, 2010, 0, 0);
        empty.single(0, 0);
        empty.net(10, 0);
        due.is("part", empty.part(0), 1);
        due.is("fit of no DOTS", empty.fit(0, 0, 0, 0), NightDots.NO);
        due.is("miss of no DOTS", empty.miss(0, 0, 0, 0), NightDots.NO);
    }

    /** "none, if all HOURS are one": of eight DOTS too, but not if one of them has another HOUR */
    private static void oneHourButForOne() {
        for (int last = 199; last <= 201; last++) {
            Sky sky = new Sky();
            sky.net(1, 200);
            for (int i = 0; i < 7; i++) {
                sky.dot(200, i, -i, 0);
            }
            sky.dot(last, 7, -7, 0);
            sky.single(0, 0);
            for (int i = 1; i < 8; i++) {
                sky.join(0, i);
            }
            due.is("DOTS", sky.path(0, 1), 8);
            for (int axis = 0; axis < 2; axis++) {
                long speed = (axis == 0 ? 4 : -4) * (last - 200);
                due.is("v", sky.fit(0, axis, 1, 0), last == 200 ? NightDots.NO : speed);
                due.is("v, below", sky.fit(0, axis, 1, 1), last == 200 ? NightDots.NO : 1);
                due.is("p", sky.fit(0, axis, 0, 0), last == 200 ? NightDots.NO : (axis == 0 ? 3 : -3) - 200 * speed);
                due.is("miss", sky.miss(0, 0, axis, 0), last == 200 ? NightDots.NO : 3);
                due.is("miss, below", sky.miss(0, 7, axis, 1), last == 200 ? NightDots.NO : 1);
            }
        }
    }

    /** The line need not be of THE NET, nor the PATH SOUND. */
    private static void greatNumbers() {
        Sky sky = new Sky();
        sky.dot(0, 0, 0, 0);
        sky.dot(400, 9000, -9000, 0);
        sky.dot(399, -9000, 9000, 0);
        sky.single(0, 0);
        sky.force(0, 1);
        sky.force(0, 2);
        due.is("SOUND", sky.path(0, 2), 0);
        // n = 3, S(t) = 799, S(x) = 0, S(tt) = 319201, S(tx) = 9000; v = 27000 / 319202
        dueFit(sky, 0, 1, 13500, 159601);
        dueFit(sky, 0, 0, -3595500, 159601);
        dueFit(sky, 1, 1, -13500, 159601);
        dueMiss(sky, 0, 0, 3595500, 159601);
        dueMiss(sky, 0, 1, 3595500, 159601);
        dueMiss(sky, 1, 0, 9000L * 159601 + 3595500 - 13500L * 400, 159601);
        dueMiss(sky, 2, 0, 9000L * 159601 - 3595500 + 13500L * 399, 159601);
    }

    /** Eight DOTS at the ends of all that is allowed, held against the Model's fractions of any size. */
    private static void widestRows() {
        int[][] hours = {{0, 0, 0, 0, 400, 400, 400, 400}, {393, 394, 395, 396, 397, 398, 399, 400},
            {0, 400, 400, 400, 400, 400, 400, 400}, {0, 57, 113, 171, 229, 287, 349, 400}};
        for (int[] row : hours) {
            Sky sky = new Sky();
            Model model = new Model();
            for (int i = 0; i < row.length; i++) {
                int x = i % 2 == 0 ? 9000 - i : i - 9000;
                int y = i < 4 ? i - 9000 : 9000 - i;
                due.is("dot", sky.dot(row[i], x, y, 0), model.dot(row[i], x, y, 0));
            }
            due.is("single", sky.single(7, 0), model.single(7, 0));
            for (int i = 0; i < row.length; i++) {
                due.is("force", sky.force(0, i), model.force(0, i));
            }
            due.is("DOTS", sky.path(0, 1), 8);
            for (int ask = 0; ask < 32; ask++) {
                int axis = ask % 2;
                int part = ask / 2 % 2;
                int i = ask / 4;
                due.is("fit", sky.fit(0, axis, i % 2, part), model.fit(0, axis, i % 2, part));
                due.is("miss", sky.miss(0, i, axis, part), model.miss(0, i, axis, part));
            }
        }
    }

    private static void wrongInputs() {
        Sky sky = Skies.wanderer();
        sky.start(0, 7);
        for (int wild : Skies.WILD) {
            due.is("fit, path " + wild, sky.fit(wild, 0, 0, 0), NightDots.NO);
            due.is("fit, axis " + wild, sky.fit(0, wild, 0, 0), NightDots.NO);
            due.is("fit, what " + wild, sky.fit(0, 0, wild, 0), NightDots.NO);
            due.is("fit, part " + wild, sky.fit(0, 0, 0, wild), NightDots.NO);
            due.is("miss, path " + wild, sky.miss(wild, 0, 0, 0), NightDots.NO);
            due.is("miss, i " + wild, sky.miss(0, wild, 0, 0), NightDots.NO);
            due.is("miss, axis " + wild, sky.miss(0, 0, wild, 0), NightDots.NO);
            due.is("miss, part " + wild, sky.miss(0, 0, 0, wild), NightDots.NO);
        }
        due.is("fit, axis 2", sky.fit(0, 2, 0, 0), NightDots.NO);
        due.is("fit, what 2", sky.fit(0, 0, 2, 0), NightDots.NO);
        due.is("fit, part 2", sky.fit(0, 0, 0, 2), NightDots.NO);
        due.is("miss, i 4", sky.miss(0, 4, 0, 0), NightDots.NO);
        due.is("miss, axis 2", sky.miss(0, 0, 2, 0), NightDots.NO);
        due.is("miss, part 2", sky.miss(0, 0, 0, 2), NightDots.NO);
        sky.undo();
        due.is("fit of a GONE one", sky.fit(0, 0, 0, 0), NightDots.NO);
        due.is("miss of a GONE one", sky.miss(0, 0, 0, 0), NightDots.NO);
    }
}
