import java.util.ArrayList;
import java.util.List;

/** All places taken: 60 DOTS, 12 PATHS ever, 8 DOTS in a row, 40 BITS in pairs, 30 acts kept. */
public final class FullTest {
    private static final Due due = new Due();

    public static void main(String[] args) {
        sixtyDots();
        sixtyDotsKeepTheActs();
        twelvePaths();
        twelvePathsEver();
        twelveByStart();
        eightByJoin();
        eightByJoinBit();
        eightByForce();
        eightByMerge();
        roomAgain();
        fortyBits();
        mostBits();
        thirtyActs();
        thirtyOneActs();
        thirtyAgain();
        allCalls();
        due.end();
    }

    private static Sky sixty() {
        Sky sky = new Sky();
        for (int i = 0; i < 60; i++) {
            sky.dot(i, 0, 0, 1);
        }
        return sky;
    }

    /** "DOTS are numbered from 0 on, 60 at most" */
    private static void sixtyDots() {
        Sky sky = new Sky();
        for (int i = 0; i < 60; i++) {
            due.is("dot " + i, sky.dot(i, 0, 0, 1), i);
        }
        due.is("DOTS", sky.count(0), 60);
        due.is("HOUR of the last one", sky.about(59, 0), 59);
        Refusals refusals = new Refusals(due, FullTest::sixty);
        refusals.is("a 61st", full -> full.dot(60, 0, 0, 1), NightDots.FULL);
        refusals.is("the last one again", full -> full.dot(59, 0, 0, 2), 59);
        refusals.is("the first one again", full -> full.dot(0, 0, 0, 2), 0);
    }

    /** "dot() ends that", but a refused one changes nothing */
    private static void sixtyDotsKeepTheActs() {
        Sky sky = sixty();
        sky.single(59, 0);
        sky.join(0, 58);
        due.is("a 61st", sky.dot(60, 0, 0, 1), NightDots.FULL);
        due.is("acts", sky.count(7), 2);
        due.is("undo", sky.undo(), 1);
        due.is("DOTS of PATH 0", sky.path(0, 1), 1);
    }

    /** "PATHS are numbered from 0 on, 12 at most ever" */
    private static void twelvePaths() {
        Sky sky = Skies.allPaths(4);
        due.is("PATHS", sky.count(2), 12);
        due.is("PATHS ever", sky.count(3), 12);
        due.is("NAME of the last one", sky.path(11, 0), 111);
        due.is("no PATH behind it", sky.path(12, 0), NightDots.NONE);
        due.is("join to the last one", sky.join(11, 12), 2);
        due.is("tellOff to one of many", sky.tellOff(13), NightDots.NONE);
        Refusals refusals = new Refusals(due, () -> Skies.allPaths(4));
        refusals.is("a 13th by single", full -> full.single(12, 0), NightDots.FULL);
        refusals.is("a 13th by start", full -> full.start(0, 0), NightDots.FULL);
    }

    /** "12 at most ever": merged ones and those that were taken back count too */
    private static void twelvePathsEver() {
        Sky sky = Skies.allPaths(4);
        due.is("merge", sky.merge(0, 11), 0);
        due.is("single behind merge", sky.single(12, 0), NightDots.FULL);
        due.is("start behind merge", sky.start(0, 0), NightDots.FULL);
        due.is("PATHS", sky.count(2), 11);
        due.is("PATHS ever", sky.count(3), 12);
        sky.undo();
        sky.undo();
        due.is("GONE for good", sky.path(11, 3), 1);
        due.is("single behind undo", sky.single(12, 0), NightDots.FULL);
        due.is("start behind undo", sky.start(0, 0), NightDots.FULL);
        Sky again = new Sky();
        again.dot(0, 0, 0, 0);
        for (int i = 0; i < 12; i++) {
            due.is("single, each taken back", again.single(0, i), i);
            due.is("undo", again.undo(), 0);
        }
        due.is("a 13th, all others GONE", again.single(0, 12), NightDots.FULL);
        due.is("PATHS", again.count(2), 0);
        due.is("PATHS ever", again.count(3), 12);
    }

    private static void twelveByStart() {
        Sky sky = new Sky();
        for (int i = 0; i < 4; i++) {
            sky.dot(24 * (i / 2) + i % 2, 0, 0, 0);
        }
        for (int i = 0; i < 12; i++) {
            due.is("start, each taken back", sky.start(0, i), i);
            due.is("undo", sky.undo(), 0);
        }
        due.is("a 13th", sky.start(0, 12), NightDots.FULL);
        due.is("pairs still", sky.pairs(), 1);
    }

    /** "a row of DOTS, 8 at most" */
    private static void eightByJoin() {
        due.is("an eighth", Skies.resting(7, 1).join(0, 7), 8);
        Refusals refusals = new Refusals(due, () -> Skies.resting(8, 2));
        refusals.is("a ninth", sky -> sky.join(0, 8), NightDots.FULL);
        refusals.is("a ninth and a tenth", sky -> sky.joinBit(0, 0), NightDots.FULL);
        refusals.is("a ninth by force", sky -> sky.force(0, 9), NightDots.FULL);
    }

    private static void eightByJoinBit() {
        due.is("a seventh and an eighth", Skies.resting(6, 2).joinBit(0, 0), 8);
        Refusals refusals = new Refusals(due, () -> Skies.resting(7, 2));
        refusals.is("an eighth and a ninth", sky -> sky.joinBit(0, 0), NightDots.FULL);
    }

    private static void eightByForce() {
        Sky sky = Skies.resting(7, 0);
        sky.dot(9, 5000, 5000, 0);
        sky.dot(9, -5000, -5000, 0);
        due.is("an eighth", sky.force(0, 7), 8);
        due.is("SOUND", sky.path(0, 2), 0);
        due.is("a ninth", sky.force(0, 8), NightDots.FULL);
        due.is("DOTS", sky.path(0, 1), 8);
        due.is("FREE", sky.about(8, 5), NightDots.NONE);
    }

    /** "FULL: more than 8 DOTS." */
    private static void eightByMerge() {
        Sky eight = Skies.twoResting(5, 3, 0);
        due.is("merge of 5 and 3", eight.merge(0, 1), 0);
        due.is("DOTS", eight.path(0, 1), 8);
        due.is("the last one", eight.path(0, 17), 7);
        int[][] tooMany = {{5, 4}, {8, 1}, {1, 8}, {8, 8}};
        for (int[] rows : tooMany) {
            Refusals refusals = new Refusals(due, () -> Skies.twoResting(rows[0], rows[1], 0));
            refusals.is("merge of " + rows[0] + " and " + rows[1], sky -> sky.merge(0, 1), NightDots.FULL);
            refusals.is("same of " + rows[0] + " and " + rows[1], sky -> sky.same(1, 0), 1);
        }
    }

    /** A row that was full takes a DOT again once one has left. */
    private static void roomAgain() {
        Sky sky = Skies.resting(7, 1);
        sky.dot(9, 5000, 5000, 0);
        sky.force(0, 8);
        due.is("a ninth", sky.force(0, 7), NightDots.FULL);
        due.is("part", sky.part(0), 1);
        due.is("an eighth again", sky.join(0, 7), 8);
        due.is("undo", sky.undo(), 2);
        due.is("and again", sky.force(0, 7), 8);
    }

    /** Three BITS on each of 13 NIGHTS, 39 in all, and one on each of `more` other ones. */
    private static Sky bits(int more) {
        Sky sky = new Sky();
        for (int night = 0; night < 13; night++) {
            for (int i = 0; i < 3; i++) {
                sky.dot(24 * night + i, 0, 0, 0);
            }
        }
        for (int i = 0; i < more; i++) {
            sky.dot(24 * (13 + i), 0, 0, 0);
            sky.dot(24 * (13 + i) + 1, 0, 0, 0);
        }
        return sky;
    }

    /** "-1: there are more than 40 BITS", "NONE (also with more than 40 BITS)" */
    private static void fortyBits() {
        Sky forty = bits(1);
        due.is("40 bits", forty.bits(), 40);
        due.is("pairs of 40", forty.pairs(), 780 - 13 * 3);
        due.is("the last pair's one BIT", forty.pair(740, 0), 38);
        due.is("the last pair's other BIT", forty.pair(740, 1), 39);
        due.is("no pair behind it", forty.pair(741, 0), NightDots.NONE);
        due.is("start of it", forty.start(740, 0), 0);
        due.is("its first DOT", forty.path(0, 10), 37);
        due.is("its last DOT", forty.path(0, 13), 40);
        Refusals refusals = new Refusals(due, () -> bits(2));
        refusals.is("41 bits", sky -> sky.bits(), 41);
        refusals.is("pairs of 41", sky -> sky.pairs(), -1);
        refusals.is("pair of 41, one BIT", sky -> sky.pair(0, 0), NightDots.NONE);
        refusals.is("pair of 41, other BIT", sky -> sky.pair(0, 1), NightDots.NONE);
        refusals.is("start of 41", sky -> sky.start(0, 0), NightDots.NONE);
        refusals.is("bit 40", sky -> sky.bit(40, 1), 42);
        Sky over = bits(2);
        due.is("pairs of 41", over.pairs(), -1);
        over.single(42, 0);
        due.is("one BIT less", over.bits(), 40);
        due.is("pairs again", over.pairs(), 741);
        over.undo();
        due.is("pairs of 41 again", over.pairs(), -1);
        over.single(0, 0);
        due.is("joinBit with 39", over.joinBit(1, 38), 3);
    }

    /** BITS are not bounded as pairs are: all 60 DOTS on one NIGHT, by twos and threes at an HOUR. */
    private static void mostBits() {
        Sky sky = new Sky();
        for (int i = 0; i < 60; i++) {
            sky.dot(i % 24, i / 24, 0, 0);
        }
        int ofOneHour = 12 * 3 + 12;
        due.is("bits", sky.bits(), 60 * 59 / 2 - ofOneHour);
        due.is("the last one's first DOT", sky.bit(1721, 0), 59);
        due.is("the last one's second DOT", sky.bit(1721, 1), 47);
        due.is("none behind it", sky.bit(1722, 0), NightDots.NONE);
        due.is("pairs", sky.pairs(), -1);
        due.is("single", sky.single(0, 0), 0);
        int last = sky.bits() - 1;
        due.is("joinBit of the last one", sky.joinBit(0, last), 3);
        due.is("its DOT", sky.path(0, 12), 47);
    }

    /** `many` acts: PATHS of a single DOT with seven joined. What is there before each one is put into `states`. */
    private static Sky acts(int many, List<String> states) {
        Sky sky = new Sky();
        for (int i = 0; i < 40; i++) {
            sky.dot(i, 0, 0, 0);
        }
        for (int i = 0; i < many; i++) {
            states.add(state(sky, i));
            due.is("act " + i, i % 8 == 0 ? sky.single(i, i) : sky.join(i / 8, i), i % 8 == 0 ? i / 8 : i % 8 + 1);
        }
        return sky;
    }

    /** The PATHS of the DOTS about DOT i, in few calls. */
    private static String state(Sky sky, int i) {
        return sky.count(1) + " FREE, " + sky.count(2) + " PATHS, " + sky.about(i, 5) + " " + sky.about(Math.max(0, i - 1), 5);
    }

    private static void takeBack(Sky sky, List<String> states, int many) {
        for (int i = 0; i < many; i++) {
            int act = states.size() - 1 - i;
            due.is("undo of act " + act, sky.undo(), many - 1 - i);
            String is = state(sky, act);
            due.isTrue("before act " + act + ": " + states.get(act) + ", is " + is, is.equals(states.get(act)));
        }
        due.is("undo of none", sky.undo(), NightDots.STATE);
        due.is("acts", sky.count(7), 0);
    }

    /** "30 are kept" */
    private static void thirtyActs() {
        List<String> states = new ArrayList<>();
        Sky sky = acts(30, states);
        due.is("acts", sky.count(7), 30);
        takeBack(sky, states, 30);
        due.is("FREE ones", sky.count(1), 40);
    }

    private static void thirtyOneActs() {
        List<String> states = new ArrayList<>();
        Sky sky = acts(31, states);
        due.is("acts", sky.count(7), 30);
        takeBack(sky, states, 30);
        due.isTrue("the first act stays", Told.rows(sky).equals("FREE" + numbers(1, 39) + ", PATH 0 named 0: 0"));
    }

    private static String numbers(int first, int last) {
        StringBuilder all = new StringBuilder();
        for (int i = first; i <= last; i++) {
            all.append(' ').append(i);
        }
        return all.toString();
    }

    /** Acts that were taken back make room for others; only what is beyond thirty is dropped. */
    private static void thirtyAgain() {
        Sky sky = acts(31, new ArrayList<>());
        due.is("undo", sky.undo(), 29);
        due.is("undo", sky.undo(), 28);
        due.is("join", sky.join(3, 39), 6);
        due.is("acts", sky.count(7), 29);
        due.is("join", sky.join(3, 38), 7);
        due.is("acts", sky.count(7), 30);
        due.is("single", sky.single(37, 9), 4);
        due.is("acts", sky.count(7), 30);
        for (int left = 29; left >= 0; left--) {
            due.is("undo", sky.undo(), left);
        }
        due.is("undo of none", sky.undo(), NightDots.STATE);
        due.isTrue("the first two stay", Told.rows(sky).equals("FREE" + numbers(2, 39) + ", PATH 0 named 0: 0 1"));
    }

    /** "An object is used for at most 512 calls": acts that come and go do not fill it before. */
    private static void allCalls() {
        Sky sky = Skies.resting(1, 1);
        while (sky.callsLeft() >= 6) {
            due.is("join", sky.join(0, 1), 2);
            due.is("undo", sky.undo(), 1);
            due.is("force", sky.force(0, 1), 2);
            due.is("undo", sky.undo(), 1);
        }
        while (sky.callsLeft() > 1) {
            due.is("a DOT that is there", sky.dot(1, 0, 0, 9), 1);
        }
        due.is("acts, asked by the last call", sky.count(7), 1);
    }
}
