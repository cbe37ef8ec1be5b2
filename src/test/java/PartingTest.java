/** "THE PARTING of a PATH: the fewest DOTS by whose leaving it is SOUND", and which of several sets leaves. */
public final class PartingTest {
    private static final Due due = new Due();

    public static void main(String[] args) {
        noneLeaves();
        fewestLeave();
        theFirstOfTheRowLeave();
        theRowNotTheNumbers();
        allLeave();
        fullRow();
        byY();
        takenBack();
        due.end();
    }

    /** PATH 0 of DOTS at the HOURS 0, 1, .., each in a group: no line fits DOTS of two groups. */
    private static Sky groups(int... groupOfEach) {
        Sky sky = new Sky();
        for (int i = 0; i < groupOfEach.length; i++) {
            sky.dot(i, 200 * groupOfEach[i], 0, 0);
        }
        sky.single(0, 0);
        for (int i = 1; i < groupOfEach.length; i++) {
            sky.force(0, i);
        }
        return sky;
    }

    private static void dueParting(Sky sky, int path, int leaving, int... staying) {
        int free = sky.count(1);
        int acts = sky.count(7);
        due.is("part", sky.part(path), leaving);
        due.is("DOTS", sky.path(path, 1), staying.length);
        for (int i = 0; i < staying.length; i++) {
            due.is("path(" + path + ", " + (10 + i) + ")", sky.path(path, 10 + i), staying[i]);
            due.is("PATH of DOT " + staying[i], sky.about(staying[i], 5), path);
        }
        due.is("FREE ones", sky.count(1), free + leaving);
        due.is("SOUND", sky.path(path, 2), 1);
        due.is("acts", sky.count(7), acts + (leaving > 0 ? 1 : 0));
        due.is("part again", sky.part(path), 0);
    }

    /** "(0: it is SOUND)" */
    private static void noneLeaves() {
        dueParting(groups(1), 0, 0, 0);
        dueParting(groups(1, 1), 0, 0, 0, 1);
        dueParting(groups(1, 1, 1, 1, 1, 1, 1, 1), 0, 0, 0, 1, 2, 3, 4, 5, 6, 7);
    }

    private static void fewestLeave() {
        dueParting(groups(0, 1, 1), 0, 1, 1, 2);
        dueParting(groups(1, 0, 1), 0, 1, 0, 2);
        dueParting(groups(1, 1, 0), 0, 1, 0, 1);
        dueParting(groups(1, 0, 1, 0, 1), 0, 2, 0, 2, 4);
        dueParting(groups(1, 2, 2, 3, 2, 4), 0, 3, 1, 2, 4);
    }

    /** "at the first place of the row at which two sets differ the one that has it" */
    private static void theFirstOfTheRowLeave() {
        dueParting(groups(0, 1), 0, 1, 1);
        dueParting(groups(0, 1, 2), 0, 2, 2);
        dueParting(groups(0, 0, 1, 1), 0, 2, 2, 3);
        dueParting(groups(0, 1, 0, 1), 0, 2, 1, 3);
        dueParting(groups(0, 1, 1, 0), 0, 2, 1, 2);
        dueParting(groups(0, 1, 1, 2, 2, 0), 0, 4, 3, 4);
        dueParting(groups(0, 1, 2, 1, 2, 0), 0, 4, 2, 4);
        dueParting(groups(0, 1, 2, 2, 1, 0), 0, 4, 2, 3);
        dueParting(groups(3, 0, 0, 1, 1), 0, 3, 3, 4);
    }

    /** The row is as the DOTS came, whatever their numbers and HOURS. */
    private static void theRowNotTheNumbers() {
        Sky sky = new Sky();
        sky.dot(0, 0, 0, 0);
        sky.dot(1, 500, 0, 0);
        sky.dot(2, 500, 0, 0);
        sky.dot(3, 0, 0, 0);
        sky.single(2, 0);
        sky.force(0, 3);
        sky.force(0, 1);
        sky.force(0, 0);
        dueParting(sky, 0, 2, 3, 0);
        due.is("DOT 1 is FREE", sky.about(1, 5), NightDots.NONE);
        due.is("DOT 2 is FREE", sky.about(2, 5), NightDots.NONE);
    }

    /** "(Of none left it is SOUND: its HEAP is all THE NET.)" */
    private static void allLeave() {
        Sky sky = new Sky();
        sky.net(50, 200);
        for (int i = 0; i < 8; i++) {
            sky.dot(0, 25 + i, 0, 0);
        }
        sky.single(0, 0);
        for (int i = 1; i < 8; i++) {
            sky.join(0, i);
        }
        due.is("DOTS", sky.path(0, 1), 8);
        sky.net(50, 0);
        dueParting(sky, 0, 8);
        due.is("heap", sky.heap(0), 81L * 41 * 81 * 41);
    }

    private static void fullRow() {
        dueParting(groups(0, 1, 0, 1, 0, 1, 0, 1), 0, 4, 1, 3, 5, 7);
        dueParting(groups(0, 1, 2, 3, 4, 5, 6, 7), 0, 7, 7);
        dueParting(groups(1, 1, 1, 1, 1, 1, 1, 0), 0, 1, 0, 1, 2, 3, 4, 5, 6);
        dueParting(groups(0, 1, 1, 1, 1, 1, 1, 1), 0, 1, 1, 2, 3, 4, 5, 6, 7);
    }

    private static void byY() {
        Sky sky = new Sky();
        sky.dot(0, 0, 0, 0);
        sky.dot(1, 0, 500, 0);
        sky.dot(2, 500, 0, 0);
        sky.dot(3, 0, 0, 0);
        sky.single(0, 0);
        for (int i = 1; i < 4; i++) {
            sky.force(0, i);
        }
        dueParting(sky, 0, 2, 0, 3);
    }

    /** The DOTS that left come back to their places. */
    private static void takenBack() {
        Sky sky = groups(0, 1, 0, 1);
        due.is("part", sky.part(0), 2);
        due.is("another PATH of one that left", sky.single(2, 5), 1);
        due.is("undo", sky.undo(), 5);
        due.is("undo of part", sky.undo(), 4);
        due.isTrue("the row", Told.rows(sky).equals("FREE, PATH 0 named 0: 0 1 2 3"));
    }
}
