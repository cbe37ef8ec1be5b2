/** Objects that several tests begin with. */
final class Skies {
    static final int[] WILD = {Integer.MIN_VALUE, -1_000_000, -5, -4, -3, -2, -1, 60, 1000, Integer.MAX_VALUE};

    private Skies() {
    }

    /** DOTS 0 .. 4 on x = 50 + 5 HOUR, y = 70 - 2 HOUR, on three NIGHTS; DOT 5 is far away. */
    static Sky wanderer() {
        Sky sky = new Sky();
        sky.dot(10, 100, 50, 1);
        sky.dot(12, 110, 46, 1);
        sky.dot(40, 250, -10, 2);
        sky.dot(44, 270, -18, 2);
        sky.dot(70, 400, -70, 3);
        sky.dot(70, 900, 900, 3);
        return sky;
    }

    /** PATH 0 of the DOTS 0 .. n - 1, all at rest at (0, 0), at the HOURS 0 .. n - 1; `more` FREE ones behind. */
    static Sky resting(int n, int more) {
        Sky sky = new Sky();
        for (int i = 0; i < n + more; i++) {
            sky.dot(i, 0, 0, 0);
        }
        sky.single(0, 5);
        for (int i = 1; i < n; i++) {
            sky.join(0, i);
        }
        return sky;
    }

    /**
     * Something of everything: FREE DOTS 6 .. 9 with two BITS and a pair, the SOUND PATH 0, the PATHS
     * 1 (taken back) and 2 (merged) that are GONE, PATH 3 that is not SOUND, and five acts kept.
     */
    static Sky busy() {
        Sky sky = wanderer();
        sky.dot(100, -500, -500, 4);
        sky.dot(101, -500, -500, 4);
        sky.dot(130, -500, -500, 4);
        sky.dot(131, -500, -500, 4);
        sky.dot(200, 3000, -3000, 5);
        sky.single(4, 8);
        sky.single(5, 9);
        sky.undo();
        sky.start(0, 7);
        sky.merge(0, 2);
        sky.single(5, 3);
        sky.force(3, 10);
        return sky;
    }

    /** The PATHS 0 and 1 of `a` and `b` DOTS at rest at (0, 0), in their order; `more` FREE ones behind. */
    static Sky twoResting(int a, int b, int more) {
        Sky sky = new Sky();
        for (int i = 0; i < a + b + more; i++) {
            sky.dot(i, 0, 0, 0);
        }
        sky.single(0, 0);
        for (int i = 1; i < a; i++) {
            sky.join(0, i);
        }
        sky.single(a, 1);
        for (int i = 1; i < b; i++) {
            sky.join(1, a + i);
        }
        return sky;
    }

    /** PATH 0, named 4, has no DOT left: its only one, DOT 0, does not fit any more; `more` FREE ones behind. */
    static Sky emptied(int more) {
        Sky sky = new Sky();
        sky.dot(0, 2010, 0, 0);
        for (int i = 1; i <= more; i++) {
            sky.dot(i, 0, 0, 0);
        }
        sky.single(0, 4);
        sky.net(10, 0);
        sky.part(0);
        return sky;
    }

    /** The PATHS 0 .. 11 of one DOT each, then `more` FREE DOTS, at rest at (0, 0), each two of them on a NIGHT. */
    static Sky allPaths(int more) {
        Sky sky = new Sky();
        for (int i = 0; i < 12 + more; i++) {
            sky.dot(24 * (i / 2) + i % 2, 0, 0, 0);
        }
        for (int path = 0; path < 12; path++) {
            sky.single(path, 100 + path);
        }
        return sky;
    }
}
