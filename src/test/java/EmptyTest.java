/** Nothing there yet, or nothing there any more: DOTS, PATHS, BITS, pairs, acts, the row of a PATH, its HEAP. */
public final class EmptyTest {
    private static final Due due = new Due();
    private static final long ALL_LINES = 401L * 41 * 401 * 41;

    public static void main(String[] args) {
        newObject();
        dotsAlone();
        noBits();
        oneBit();
        noActs();
        allActsTakenBack();
        noDotsInARow();
        noDotsAhead();
        noDotsLengthened();
        noDotsMerged();
        noDotsTakenBack();
        emptyHeap();
        due.end();
    }

    /** "No DOTS, no PATHS.": no call finds anything, and none leaves anything behind */
    private static void newObject() {
        Refusals refusals = new Refusals(due, Sky::new);
        refusals.is("about", sky -> sky.about(0, 0), NightDots.NONE);
        refusals.is("bits", sky -> sky.bits(), 0);
        refusals.is("bit", sky -> sky.bit(0, 0), NightDots.NONE);
        refusals.is("pairs", sky -> sky.pairs(), 0);
        refusals.is("pair", sky -> sky.pair(0, 0), NightDots.NONE);
        refusals.is("start", sky -> sky.start(0, 0), NightDots.NONE);
        refusals.is("single", sky -> sky.single(0, 0), NightDots.NONE);
        refusals.is("join", sky -> sky.join(0, 0), NightDots.NONE);
        refusals.is("joinBit", sky -> sky.joinBit(0, 0), NightDots.NONE);
        refusals.is("force", sky -> sky.force(0, 0), NightDots.NONE);
        for (int what = 0; what < 12; what++) {
            int asked = what;
            refusals.is("path, " + what, sky -> sky.path(0, asked), NightDots.NONE);
        }
        refusals.is("heap", sky -> sky.heap(0), -1);
        refusals.is("ahead", sky -> sky.ahead(0, 0, 0), NightDots.NO);
        refusals.is("tellOff", sky -> sky.tellOff(0), NightDots.NONE);
        refusals.is("fit", sky -> sky.fit(0, 0, 0, 0), NightDots.NO);
        refusals.is("miss", sky -> sky.miss(0, 0, 0, 0), NightDots.NO);
        refusals.is("part", sky -> sky.part(0), NightDots.NONE);
        refusals.is("same", sky -> sky.same(0, 1), NightDots.NONE);
        refusals.is("merge", sky -> sky.merge(0, 1), NightDots.NONE);
        refusals.is("undo", sky -> sky.undo(), NightDots.STATE);
        int[] counts = {0, 0, 0, 0, 10, 10, 10, 0};
        Sky sky = new Sky();
        for (int what = 0; what < counts.length; what++) {
            due.is("count(" + what + ")", sky.count(what), counts[what]);
        }
    }

    /** A FREE DOT, but no PATH that it could come to. */
    private static void dotsAlone() {
        Sky sky = new Sky();
        sky.dot(0, 0, 0, 0);
        due.is("its PATH", sky.about(0, 5), NightDots.NONE);
        due.is("FREE ones", sky.count(1), 1);
        due.is("tellOff", sky.tellOff(0), NightDots.NONE);
        due.is("join", sky.join(0, 0), NightDots.NONE);
        due.is("force", sky.force(0, 0), NightDots.NONE);
        due.is("PATHS", sky.count(2), 0);
    }

    /** "all sets of two FREE DOTS": of one DOT, and of two that are in a PATH, there is none */
    private static void noBits() {
        Sky sky = new Sky();
        sky.dot(0, 0, 0, 0);
        due.is("bits of one DOT", sky.bits(), 0);
        due.is("bit of one DOT", sky.bit(0, 0), NightDots.NONE);
        sky.dot(1, 0, 0, 0);
        due.is("bits of two", sky.bits(), 1);
        sky.single(0, 0);
        due.is("bits of one FREE DOT", sky.bits(), 0);
        due.is("bit of one FREE DOT", sky.bit(0, 0), NightDots.NONE);
        due.is("joinBit of none", sky.joinBit(0, 0), NightDots.NONE);
        sky.join(0, 1);
        due.is("bits of no FREE DOT", sky.bits(), 0);
        due.is("FREE ones", sky.count(1), 0);
    }

    /** "all two BITS": of one BIT there is no pair */
    private static void oneBit() {
        Sky sky = new Sky();
        sky.dot(0, 0, 0, 0);
        sky.dot(1, 0, 0, 0);
        due.is("pairs", sky.pairs(), 0);
        due.is("pair", sky.pair(0, 0), NightDots.NONE);
        due.is("start", sky.start(0, 0), NightDots.NONE);
    }

    /** "STATE: none can." */
    private static void noActs() {
        Refusals refusals = new Refusals(due, Skies::wanderer);
        refusals.is("undo before any act", sky -> sky.undo(), NightDots.STATE);
        Refusals ended = new Refusals(due, () -> {
            Sky sky = Skies.busy();
            sky.dot(300, 0, 0, 0);
            return sky;
        });
        ended.is("undo behind dot()", sky -> sky.undo(), NightDots.STATE);
        ended.is("acts behind dot()", sky -> sky.count(7), 0);
    }

    private static void allActsTakenBack() {
        Sky sky = Skies.busy();
        for (int left = 4; left >= 0; left--) {
            due.is("undo", sky.undo(), left);
        }
        due.is("undo of none", sky.undo(), NightDots.STATE);
        due.is("acts", sky.count(7), 0);
        due.is("FREE ones", sky.count(1), 11);
        due.is("PATHS", sky.count(2), 0);
        due.is("PATHS ever", sky.count(3), 4);
    }

    /** "(Of none left it is SOUND: its HEAP is all THE NET.)" */
    private static void noDotsInARow() {
        Sky sky = Skies.emptied(0);
        due.is("NAME", sky.path(0, 0), 4);
        due.is("DOTS", sky.path(0, 1), 0);
        due.is("SOUND", sky.path(0, 2), 1);
        due.is("GONE", sky.path(0, 3), 0);
        due.is("its first DOT", sky.path(0, 10), NightDots.NONE);
        due.is("heap", sky.heap(0), ALL_LINES);
        due.is("PATHS", sky.count(2), 1);
        due.is("FREE ones", sky.count(1), 1);
        due.is("PATH of the DOT that left", sky.about(0, 5), NightDots.NONE);
        due.is("part of none", sky.part(0), 0);
        due.is("acts", sky.count(7), 2);
        for (int i = 0; i < 8; i++) {
            due.is("fit of none", sky.fit(0, i / 4, i / 2 % 2, i % 2), NightDots.NO);
        }
        due.is("miss of none", sky.miss(0, 0, 0, 0), NightDots.NO);
    }

    /** A PATH without DOTS is SOUND, so DOTS are TOLD OFF to it, with END more than all THE NET has. */
    private static void noDotsAhead() {
        Sky sky = Skies.emptied(1);
        due.is("tellOff within", sky.tellOff(1), 0);
        due.is("tellOff beyond, END 0", sky.tellOff(0), NightDots.NONE);
        sky.net(10, 9);
        due.is("tellOff beyond, END 9", sky.tellOff(0), NightDots.NONE);
        sky.net(10, 10);
        due.is("tellOff beyond, END 10", sky.tellOff(0), 0);
        sky.single(1, 0);
        due.is("tellOff with another PATH far away", sky.tellOff(0), 0);
        int near = sky.dot(2, 5, 5, 0);
        due.is("tellOff to both", sky.tellOff(near), NightDots.NONE);
    }

    private static void noDotsLengthened() {
        Sky sky = Skies.emptied(3);
        due.is("join of one that does not fit", sky.join(0, 0), NightDots.STATE);
        due.is("join", sky.join(0, 1), 1);
        sky.undo();
        due.is("joinBit", sky.joinBit(0, 1), 2);
        due.is("the first one", sky.path(0, 10), 1);
        due.is("the second one", sky.path(0, 11), 3);
        sky.undo();
        due.is("force", sky.force(0, 0), 1);
        due.is("SOUND", sky.path(0, 2), 0);
        due.is("part again", sky.part(0), 1);
    }

    /** THE HEAP of the DOTS of both is that of the other one. */
    private static void noDotsMerged() {
        Sky sky = Skies.emptied(2);
        due.is("another", sky.single(1, 9), 1);
        due.is("same", sky.same(0, 1), 1);
        due.is("merge", sky.merge(1, 0), 0);
        due.is("NAME", sky.path(0, 0), 4);
        due.is("DOTS", sky.path(0, 1), 1);
        due.is("DOT", sky.path(0, 10), 1);
        sky.undo();
        sky.net(10, 10);
        sky.single(0, 5);
        sky.net(10, 0);
        due.is("same as one that is not SOUND", sky.same(0, 2), 0);
        due.is("merge with it", sky.merge(0, 2), NightDots.STATE);
        sky.part(2);
        due.is("same, both without DOTS", sky.same(2, 0), 1);
        due.is("merge, both without DOTS", sky.merge(2, 0), 0);
        due.is("DOTS", sky.path(0, 1), 0);
        due.is("heap", sky.heap(0), ALL_LINES);
    }

    private static void noDotsTakenBack() {
        Sky sky = Skies.emptied(0);
        due.is("undo of part", sky.undo(), 1);
        due.is("DOTS", sky.path(0, 1), 1);
        due.is("SOUND", sky.path(0, 2), 0);
        due.is("PATH of its DOT", sky.about(0, 5), 0);
        due.is("undo of single", sky.undo(), 0);
        due.is("GONE", sky.path(0, 3), 1);
    }

    /** "A PATH is SOUND if its HEAP is not empty.": one line is enough */
    private static void emptyHeap() {
        Sky sky = new Sky();
        sky.net(10, 0);
        sky.dot(0, 0, 0, 0);
        sky.dot(1, 3, 4, 0);
        sky.dot(2, 6, 9, 0);
        sky.single(0, 0);
        sky.join(0, 1);
        due.is("heap of one line", sky.heap(0), 1);
        due.is("SOUND", sky.path(0, 2), 1);
        due.is("AHEAD least x", sky.ahead(0, 2, 0), 6);
        due.is("AHEAD greatest x", sky.ahead(0, 2, 1), 6);
        due.is("AHEAD least y", sky.ahead(0, 2, 2), 8);
        due.is("AHEAD greatest y", sky.ahead(0, 2, 3), 8);
        due.is("force", sky.force(0, 2), 3);
        due.is("empty heap", sky.heap(0), 0);
        due.is("SOUND no longer", sky.path(0, 2), 0);
        for (int what = 0; what < 4; what++) {
            due.is("AHEAD, " + what, sky.ahead(0, 2, what), NightDots.NO);
        }
    }
}
