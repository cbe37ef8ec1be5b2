/** Objects that several tests begin with. */
final class Skies {
    static final int[] WILD = {Integer.MIN_VALUE, -1_000_000, -5, -4, -3, -2, -1, 60, 1000, Integer.MAX_VALUE};

    private Skies() {
    }

    /** DOTS 0 .. 4 on x = 50 + 5 HOUR, y = 70 - 2 HOUR, on three NIGHTS; DOT 5 is far away. */
    static NightDots wanderer() {
        NightDots sky = new NightDots();
        sky.dot(10, 100, 50, 1);
        sky.dot(12, 110, 46, 1);
        sky.dot(40, 250, -10, 2);
        sky.dot(44, 270, -18, 2);
        sky.dot(70, 400, -70, 3);
        sky.dot(70, 900, 900, 3);
        return sky;
    }

    /** PATH 0 of the DOTS 0 .. n - 1, all at rest at (0, 0), at the HOURS 0 .. n - 1; `more` FREE ones behind. */
    static NightDots resting(int n, int more) {
        NightDots sky = new NightDots();
        for (int i = 0; i < n + more; i++) {
            sky.dot(i, 0, 0, 0);
        }
        sky.single(0, 5);
        for (int i = 1; i < n; i++) {
            sky.join(0, i);
        }
        return sky;
    }

    /** All that can be asked of an object, as one text. */
    static String told(NightDots sky) {
        StringBuilder all = new StringBuilder();
        for (int what = 0; what < 8; what++) {
            all.append(sky.count(what)).append(' ');
        }
        for (int dot = 0; dot < sky.count(0); dot++) {
            all.append("\ndot ");
            for (int what = 0; what < 6; what++) {
                all.append(sky.about(dot, what)).append(' ');
            }
            all.append(sky.tellOff(dot));
        }
        all.append("\nbits ").append(sky.bits());
        for (int i = 0; i < sky.bits(); i++) {
            all.append(' ').append(sky.bit(i, 0)).append('-').append(sky.bit(i, 1));
        }
        all.append("\npairs ").append(sky.pairs());
        for (int i = 0; i < sky.pairs(); i++) {
            all.append(' ').append(sky.pair(i, 0)).append('-').append(sky.pair(i, 1));
        }
        for (int path = 0; path < sky.count(3); path++) {
            all.append("\npath ").append(toldPath(sky, path));
        }
        return all.toString();
    }

    private static String toldPath(NightDots sky, int path) {
        StringBuilder all = new StringBuilder();
        for (int what = 0; what < 20; what++) {
            all.append(sky.path(path, what)).append(' ');
        }
        all.append(sky.heap(path));
        for (int what = 0; what < 4; what++) {
            all.append(' ').append(sky.ahead(path, 100, what));
            all.append(' ').append(sky.fit(path, what / 2, what % 2, 0));
            all.append(' ').append(sky.fit(path, what / 2, what % 2, 1));
        }
        for (int i = 0; i < 8; i++) {
            all.append(' ').append(sky.miss(path, i, i % 2, 0)).append(' ').append(sky.miss(path, i, i % 2, 1));
        }
        return all.toString();
    }
}
