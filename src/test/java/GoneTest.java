import java.util.List;
import java.util.function.Supplier;

/** "A GONE PATH is none for all calls but path().": one that was merged, and ones that were taken back. */
public final class GoneTest {
    private static final Due due = new Due();

    public static void main(String[] args) {
        for (Supplier<Sky> way : List.<Supplier<Sky>>of(GoneTest::merged, GoneTest::singleTakenBack, GoneTest::startTakenBack)) {
            noneForAllCalls(way);
            whatItHas(way);
        }
        dotsOfAMergedOne();
        notToldOff();
        notGoneAgain();
        goneForGood();
        due.end();
    }

    /** PATH 1, named 7, is GONE in each way; PATH 0 is there, and a FREE BIT at least. */
    private static Sky merged() {
        Sky sky = Skies.wanderer();
        sky.single(0, 8);
        sky.single(1, 7);
        sky.merge(0, 1);
        return sky;
    }

    private static Sky singleTakenBack() {
        Sky sky = Skies.wanderer();
        sky.single(4, 8);
        sky.single(5, 7);
        sky.undo();
        return sky;
    }

    private static Sky startTakenBack() {
        Sky sky = Skies.wanderer();
        sky.single(4, 8);
        sky.start(0, 7);
        sky.undo();
        return sky;
    }

    private static void noneForAllCalls(Supplier<Sky> way) {
        Refusals refusals = new Refusals(due, way);
        refusals.is("join", sky -> sky.join(1, 2), NightDots.NONE);
        refusals.is("joinBit", sky -> sky.joinBit(1, 0), NightDots.NONE);
        refusals.is("force", sky -> sky.force(1, 2), NightDots.NONE);
        refusals.is("heap", sky -> sky.heap(1), -1);
        for (int what = 0; what < 4; what++) {
            int asked = what;
            refusals.is("ahead, " + what, sky -> sky.ahead(1, 70, asked), NightDots.NO);
            refusals.is("fit, " + what, sky -> sky.fit(1, asked / 2, asked % 2, 0), NightDots.NO);
            refusals.is("miss, " + what, sky -> sky.miss(1, 0, asked / 2, asked % 2), NightDots.NO);
        }
        refusals.is("part", sky -> sky.part(1), NightDots.NONE);
        refusals.is("same, the one", sky -> sky.same(1, 0), NightDots.NONE);
        refusals.is("same, the other", sky -> sky.same(0, 1), NightDots.NONE);
        refusals.is("same, both", sky -> sky.same(1, 1), NightDots.NONE);
        refusals.is("merge, the one", sky -> sky.merge(1, 0), NightDots.NONE);
        refusals.is("merge, the other", sky -> sky.merge(0, 1), NightDots.NONE);
        refusals.is("merge, both", sky -> sky.merge(1, 1), NightDots.NONE);
    }

    /** "A PATH that is GONE (merged) has none", "(NAME, and 0, 0 of a GONE one)" */
    private static void whatItHas(Supplier<Sky> way) {
        Sky sky = way.get();
        due.is("NAME", sky.path(1, 0), 7);
        due.is("DOTS", sky.path(1, 1), 0);
        due.is("SOUND", sky.path(1, 2), 0);
        due.is("GONE", sky.path(1, 3), 1);
        for (int what = 4; what < 20; what++) {
            due.is("path(1, " + what + ")", sky.path(1, what), NightDots.NONE);
        }
        due.is("PATHS that are not GONE", sky.count(2), 1);
        due.is("PATHS ever", sky.count(3), 2);
        due.is("the other one is not GONE", sky.path(0, 3), 0);
    }

    private static void dotsOfAMergedOne() {
        Sky sky = merged();
        due.is("PATH of its DOT", sky.about(1, 5), 0);
        due.is("the DOT's place", sky.path(0, 11), 1);
        due.is("not FREE for single", sky.single(1, 0), NightDots.STATE);
        due.is("not FREE for join", sky.join(0, 1), NightDots.STATE);
    }

    /** "of all PATHS that are not GONE and are SOUND it alone" */
    private static void notToldOff() {
        Sky sky = Skies.wanderer();
        sky.single(0, 0);
        sky.single(1, 1);
        due.is("to two", sky.tellOff(4), NightDots.NONE);
        sky.merge(0, 1);
        due.is("one of them merged", sky.tellOff(4), 0);
        sky.undo();
        due.is("to two again", sky.tellOff(4), NightDots.NONE);
        sky.undo();
        due.is("one of them taken back", sky.tellOff(4), 0);
        sky.undo();
        due.is("both taken back", sky.tellOff(4), NightDots.NONE);
    }

    /** A merging that is taken back: that one is GONE no longer. */
    private static void notGoneAgain() {
        Sky sky = merged();
        due.is("undo of merge", sky.undo(), 2);
        due.is("GONE", sky.path(1, 3), 0);
        due.is("DOTS", sky.path(1, 1), 1);
        due.is("DOT", sky.path(1, 10), 1);
        due.is("PATH of its DOT", sky.about(1, 5), 1);
        due.is("DOTS of the other one", sky.path(0, 1), 1);
        due.is("PATHS", sky.count(2), 2);
        due.is("join to it", sky.join(1, 2), 2);
    }

    /** "a PATH that came by it is GONE for good, its number is not given again" */
    private static void goneForGood() {
        Sky sky = startTakenBack();
        due.is("FREE ones", sky.count(1), 5);
        due.is("the next number", sky.start(0, 5), 2);
        due.is("undo", sky.undo(), 1);
        due.is("undo", sky.undo(), 0);
        for (int path = 0; path < 3; path++) {
            due.is("GONE, PATH " + path, sky.path(path, 3), 1);
        }
        due.is("the next number", sky.single(4, 5), 3);
    }
}
