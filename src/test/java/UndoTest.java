import java.util.ArrayList;
import java.util.List;
import java.util.function.IntSupplier;

/** Promises 24 and 25: undo, count. */
public final class UndoTest {
    private static final Due due = new Due();

    public static void main(String[] args) {
        eachKind();
        thirtyAreKept();
        whatEndsIt();
        goneForGood();
        anotherInItsStead();
        count();
        due.end();
    }

    private static void eachKind() {
        Sky sky = Skies.wanderer();
        doAndTakeBack(sky, new int[] {0, 1, 0, 6, 1, 2}, () -> sky.single(4, 2), () -> sky.start(0, 1),
                () -> sky.merge(1, 0), () -> sky.force(0, 5), () -> sky.part(0), () -> sky.single(5, 3));
        Sky other = Skies.wanderer();
        doAndTakeBack(other, new int[] {0, 3, 4, 5}, () -> other.single(4, 2), () -> other.joinBit(0, 0),
                () -> other.join(0, 2), () -> other.join(0, 3));
        Sky mixed = Skies.wanderer();
        doAndTakeBack(mixed, new int[] {0, 2, 3, 4, 5, 1}, () -> mixed.single(0, 2), () -> mixed.force(0, 5),
                () -> mixed.force(0, 1), () -> mixed.force(0, 2), () -> mixed.force(0, 3), () -> mixed.part(0));
    }

    /** Does all acts, then takes all back, one by one. */
    private static void doAndTakeBack(Sky sky, int[] answers, IntSupplier... acts) {
        List<String> states = new ArrayList<>();
        for (int i = 0; i < acts.length; i++) {
            states.add(Told.rows(sky));
            due.is("act " + i, acts[i].getAsInt(), answers[i]);
            due.is("acts", sky.count(7), i + 1);
        }
        for (int i = acts.length - 1; i >= 0; i--) {
            due.is("undo()", sky.undo(), i);
            due.is("acts", sky.count(7), i);
            String is = Told.rows(sky);
            due.isTrue("state before act " + i + " was " + states.get(i) + ", is " + is, is.equals(states.get(i)));
        }
        due.is("undo() of none", sky.undo(), NightDots.STATE);
    }

    private static void thirtyAreKept() {
        Sky sky = new Sky();
        for (int i = 0; i < 48; i++) {
            sky.dot(i, 0, 0, 0);
        }
        for (int path = 0; path < 5; path++) {
            sky.single(8 * path, path);
            for (int i = 1; i < 7; i++) {
                sky.join(path, 8 * path + i);
            }
            due.is("acts", sky.count(7), Math.min(30, 7 * path + 7));
        }
        due.is("the latest is the first to go", sky.undo(), 29);
        due.is("its DOT is FREE", sky.about(38, 5), NightDots.NONE);
        due.is("another act", sky.joinBit(0, 0), NightDots.FULL);
        for (int left = 28; left >= 0; left--) {
            due.is("undo()", sky.undo(), left);
        }
        due.is("the thirty-first", sky.undo(), NightDots.STATE);
        due.is("DOTS of PATH 0", sky.path(0, 1), 5);
        due.is("PATHS", sky.count(2), 1);
        due.is("PATHS ever", sky.count(3), 5);
    }

    private static void whatEndsIt() {
        Sky sky = Skies.wanderer();
        sky.start(0, 7);
        sky.join(0, 4);
        sky.pace(3);
        sky.net(5, 5);
        sky.join(0, 4);
        sky.part(0);
        due.is("acts after pace, net, a refusal", sky.count(7), 2);
        sky.dot(401, 0, 0, 0);
        due.is("acts after a refused dot()", sky.count(7), 2);
        sky.dot(10, 100, 50, 4);
        due.is("acts after dot() of one that is there", sky.count(7), 2);
        sky.dot(11, 100, 50, 4);
        due.is("acts after dot()", sky.count(7), 0);
        due.is("undo() after dot()", sky.undo(), NightDots.STATE);
        due.is("DOTS of PATH 0", sky.path(0, 1), 5);
    }

    private static void goneForGood() {
        Sky sky = Skies.wanderer();
        sky.start(0, 7);
        sky.undo();
        int[] want = {7, 0, 0, 1};
        for (int what = 0; what < want.length; what++) {
            due.is("path(0, " + what + ")", sky.path(0, what), want[what]);
        }
        due.is("FREE", sky.count(1), 6);
        due.is("start again", sky.start(0, 8), 1);
        due.is("single", sky.single(4, 9), 2);
        due.is("merge", sky.merge(2, 1), 1);
        due.is("undo merge", sky.undo(), 2);
        due.is("GONE no longer", sky.path(2, 3), 0);
        due.is("its DOT", sky.path(2, 10), 4);
        due.is("DOTS of the other", sky.path(1, 1), 4);
        due.is("undo single", sky.undo(), 1);
        due.is("GONE for good", sky.path(2, 3), 1);
        due.is("single again", sky.single(4, 9), 3);
    }

    /** What was known of an act that was taken back does not cling to the one that comes in its stead. */
    private static void anotherInItsStead() {
        Sky sky = Skies.wanderer();
        sky.single(0, 1);
        sky.single(1, 2);
        sky.undo();
        due.is("join", sky.join(0, 1), 2);
        due.is("undo join", sky.undo(), 1);
        due.is("the PATH is there still", sky.path(0, 3), 0);
        due.is("with its one DOT", sky.path(0, 1), 1);
        sky.single(1, 3);
        sky.merge(0, 2);
        sky.undo();
        due.is("join", sky.join(2, 2), 2);
        due.is("undo join", sky.undo(), 2);
        due.is("DOTS of PATH 0", sky.path(0, 1), 1);
        due.is("DOTS of PATH 2", sky.path(2, 1), 1);
    }

    private static void count() {
        Sky sky = Skies.wanderer();
        sky.start(0, 7);
        sky.single(4, 8);
        sky.merge(0, 1);
        sky.pace(4);
        sky.net(6, 5);
        int[] want = {6, 1, 1, 2, 4, 6, 5, 3, NightDots.NONE};
        for (int what = 0; what < want.length; what++) {
            due.is("count(" + what + ")", sky.count(what), want[what]);
        }
        for (int wild : Skies.WILD) {
            due.is("count(" + wild + ")", sky.count(wild), NightDots.NONE);
        }
    }
}
