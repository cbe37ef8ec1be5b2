/** Promises 21 to 23: part, same, merge. */
public final class PartMergeTest {
    private static final Due due = new Due();

    public static void main(String[] args) {
        partFewest();
        partFirstInRow();
        partToNothing();
        partOfSoundOne();
        same();
        mergeOrder();
        mergeRefusals();
        wrongInputs();
        due.end();
    }

    /** Adds a DOT of a row by force; the first one makes the PATH. */
    private static void put(Sky sky, int hour, int x) {
        int dot = sky.dot(hour, x, 0, 0);
        if (dot == 0) {
            sky.single(dot, 6);
        } else {
            sky.force(0, dot);
        }
    }

    private static void dueRow(Sky sky, int path, int... dots) {
        due.is("DOTS of PATH " + path, sky.path(path, 1), dots.length);
        for (int i = 0; i < dots.length; i++) {
            due.is("path(" + path + ", " + (10 + i) + ")", sky.path(path, 10 + i), dots[i]);
            due.is("about(" + dots[i] + ", 5)", sky.about(dots[i], 5), path);
        }
    }

    private static void partFewest() {
        Sky sky = new Sky();
        put(sky, 0, 1000);
        put(sky, 1, 0);
        put(sky, 2, 0);
        put(sky, 3, 1000);
        put(sky, 4, 0);
        due.is("not SOUND", sky.path(0, 2), 0);
        due.is("part", sky.part(0), 2);
        dueRow(sky, 0, 1, 2, 4);
        due.is("DOT 0 is FREE", sky.about(0, 5), NightDots.NONE);
        due.is("DOT 3 is FREE", sky.about(3, 5), NightDots.NONE);
        due.is("SOUND", sky.path(0, 2), 1);
        due.is("again", sky.part(0), 0);
    }

    /** Two of each kind: {0, 3} and {1, 2} both would do; the set that has place 0 leaves. */
    private static void partFirstInRow() {
        Sky sky = new Sky();
        put(sky, 10, 500);
        put(sky, 11, 0);
        put(sky, 12, 0);
        put(sky, 13, 500);
        due.is("part of four", sky.part(0), 2);
        dueRow(sky, 0, 1, 2);
        Sky late = new Sky();
        late.dot(10, 500, 0, 0);
        late.dot(11, 0, 0, 0);
        late.single(1, 0);
        late.force(0, 0);
        due.is("part of two", late.part(0), 1);
        dueRow(late, 0, 0);
        due.is("the first of the row is FREE", late.about(1, 5), NightDots.NONE);
        Sky three = new Sky();
        put(three, 10, 0);
        put(three, 11, 500);
        put(three, 12, 1000);
        due.is("part of three", three.part(0), 2);
        dueRow(three, 0, 2);
    }

    private static void partToNothing() {
        Sky sky = new Sky();
        sky.dot(0, 2010, 0, 0);
        sky.dot(1, 2010, 0, 0);
        sky.dot(2, 0, 0, 0);
        sky.single(0, 4);
        sky.net(10, 0);
        sky.dot(3, 0, 0, 0);
        due.is("part", sky.part(0), 1);
        int[] want = {4, 0, 1, 0, NightDots.NONE};
        for (int what = 0; what < want.length; what++) {
            due.is("path(0, " + what + ")", sky.path(0, what), want[what]);
        }
        due.is("path(0, 10)", sky.path(0, 10), NightDots.NONE);
        due.is("FREE", sky.count(1), 4);
        due.is("part again", sky.part(0), 0);
        due.is("join to it", sky.join(0, 2), 1);
    }

    private static void partOfSoundOne() {
        Refusals refusals = new Refusals(due, PartMergeTest::started);
        refusals.is("part of a SOUND one", sky -> sky.part(0), 0);
    }

    private static Sky started() {
        Sky sky = Skies.wanderer();
        sky.start(0, 7);
        return sky;
    }

    private static void same() {
        Sky sky = Skies.wanderer();
        sky.start(0, 7);
        sky.single(4, 8);
        sky.single(5, 9);
        due.is("same(0, 1)", sky.same(0, 1), 1);
        due.is("same(1, 0)", sky.same(1, 0), 1);
        due.is("same(0, 2)", sky.same(0, 2), 0);
        due.is("same(1, 1)", sky.same(1, 1), NightDots.BAD);
        due.is("same(0, 3)", sky.same(0, 3), NightDots.NONE);
        due.is("same(3, 3)", sky.same(3, 3), NightDots.NONE);
        sky.net(10, 200);
        due.is("same(0, 2) with END 200", sky.same(0, 2), 0);
        sky.merge(0, 1);
        due.is("same(0, 1) merged", sky.same(0, 1), NightDots.NONE);
        due.is("same(1, 1) merged", sky.same(1, 1), NightDots.NONE);
    }

    private static void mergeOrder() {
        Sky sky = Skies.wanderer();
        sky.single(4, 8);
        sky.start(0, 7);
        due.is("merge(1, 0)", sky.merge(1, 0), 0);
        dueRow(sky, 0, 4, 0, 1, 2, 3);
        due.is("NAME stays", sky.path(0, 0), 8);
        due.is("GONE", sky.path(1, 3), 1);
        due.is("NAME of the GONE one", sky.path(1, 0), 7);
        due.is("PATHS", sky.count(2), 1);
        due.is("FREE", sky.count(1), 1);
        due.is("merge again", sky.merge(0, 1), NightDots.NONE);
        Sky turned = Skies.wanderer();
        turned.single(4, 8);
        turned.start(0, 7);
        due.is("merge(0, 1)", turned.merge(0, 1), 0);
        dueRow(turned, 0, 4, 0, 1, 2, 3);
    }

    private static void mergeRefusals() {
        Sky sky = new Sky();
        for (int i = 0; i < 10; i++) {
            sky.dot(i, 0, 0, 0);
        }
        sky.dot(20, 5000, 0, 0);
        sky.single(0, 0);
        sky.single(1, 1);
        for (int i = 2; i < 10; i++) {
            sky.join(i % 2, i);
        }
        due.is("same of ten", sky.same(0, 1), 1);
        due.is("merge of ten", sky.merge(0, 1), NightDots.FULL);
        due.is("merge with itself", sky.merge(0, 0), NightDots.BAD);
        due.is("merge with none", sky.merge(2, 2), NightDots.NONE);
        sky.force(1, 10);
        due.is("merge of eleven, not THE SAME", sky.merge(0, 1), NightDots.STATE);
        sky.undo();
        sky.undo();
        due.is("merge of nine", sky.merge(0, 1), NightDots.FULL);
        sky.undo();
        due.is("merge of eight", sky.merge(0, 1), 0);
        due.is("DOTS", sky.path(0, 1), 8);
    }

    private static void wrongInputs() {
        Refusals refusals = new Refusals(due, PartMergeTest::started);
        for (int wild : Skies.WILD) {
            refusals.is("part(" + wild + ")", sky -> sky.part(wild), NightDots.NONE);
            refusals.is("same(" + wild + ", 0)", sky -> sky.same(wild, 0), NightDots.NONE);
            refusals.is("same(0, " + wild + ")", sky -> sky.same(0, wild), NightDots.NONE);
            refusals.is("merge(" + wild + ", 0)", sky -> sky.merge(wild, 0), NightDots.NONE);
            refusals.is("merge(0, " + wild + ")", sky -> sky.merge(0, wild), NightDots.NONE);
        }
        Sky gone = started();
        gone.undo();
        due.is("part of a GONE one", gone.part(0), NightDots.NONE);
    }
}
