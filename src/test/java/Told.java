import java.util.function.Supplier;

/**
 * All that can be asked of an object, as one text. The same calls always give the same answers, so
 * an object that has few calls left is made anew, the same way, and asked in its stead.
 */
final class Told {
    private static final int CALLS_TO_SPARE = 60;

    private final Supplier<Sky> way;
    private final StringBuilder text = new StringBuilder();
    private Sky sky;

    private Told(Supplier<Sky> way) {
        this.way = way;
        sky = way.get();
    }

    static String of(Supplier<Sky> way) {
        Told told = new Told(way);
        told.tellCounts();
        told.tellDots();
        told.tellBits();
        told.tellPairs();
        told.tellPaths();
        told.tellActs();
        return told.text.toString();
    }

    private Sky ask() {
        if (sky.callsLeft() < CALLS_TO_SPARE) {
            sky = way.get();
        }
        return sky;
    }

    private void put(long answer) {
        text.append(' ').append(answer);
    }

    private void tellCounts() {
        text.append("counts");
        for (int what = 0; what < 8; what++) {
            put(ask().count(what));
        }
    }

    private void tellDots() {
        int dots = ask().count(0);
        for (int dot = 0; dot < dots; dot++) {
            text.append("\ndot");
            for (int what = 0; what < 6; what++) {
                put(ask().about(dot, what));
            }
            put(ask().tellOff(dot));
        }
    }

    private void tellBits() {
        int bits = ask().bits();
        text.append("\nbits");
        put(bits);
        for (int i = 0; i < bits; i++) {
            put(ask().bit(i, 0));
            put(ask().bit(i, 1));
        }
    }

    private void tellPairs() {
        int pairs = ask().pairs();
        text.append("\npairs");
        put(pairs);
        for (int i = 0; i < pairs; i++) {
            put(ask().pair(i, 0));
            put(ask().pair(i, 1));
        }
    }

    private void tellPaths() {
        int paths = ask().count(3);
        for (int path = 0; path < paths; path++) {
            text.append("\npath");
            for (int what = 0; what < 19; what++) {
                put(ask().path(path, what));
            }
            put(ask().heap(path));
            for (int what = 0; what < 4; what++) {
                put(ask().ahead(path, 100, what));
                put(ask().fit(path, what / 2, what % 2, 0));
                put(ask().fit(path, what / 2, what % 2, 1));
            }
            for (int i = 0; i < 8; i++) {
                put(ask().miss(path, i, 0, 0));
                put(ask().miss(path, i, 1, 0));
            }
        }
    }

    /** What is there when one act after the other has been taken back. */
    private void tellActs() {
        int acts = ask().count(7);
        for (int taken = 1; taken <= acts + 1; taken++) {
            sky = way.get();
            text.append("\nundo");
            for (int i = 0; i < taken; i++) {
                put(sky.undo());
            }
            text.append(' ').append(rows(sky));
        }
    }

    /** Which DOTS are FREE, and the rows of all PATHS that are not GONE. */
    static String rows(Sky sky) {
        StringBuilder all = new StringBuilder("FREE");
        int dots = sky.count(0);
        for (int dot = 0; dot < dots; dot++) {
            if (sky.about(dot, 5) == NightDots.NONE) {
                all.append(' ').append(dot);
            }
        }
        int paths = sky.count(3);
        for (int path = 0; path < paths; path++) {
            if (sky.path(path, 3) == 0) {
                all.append(", PATH ").append(path).append(" named ").append(sky.path(path, 0)).append(':');
                int length = sky.path(path, 1);
                for (int i = 0; i < length; i++) {
                    all.append(' ').append(sky.path(path, 10 + i));
                }
            }
        }
        return all.toString();
    }
}
