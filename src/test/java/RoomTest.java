import java.lang.management.ManagementFactory;

/** All calls of a run live in one room: a new object is small, and no call makes an object. */
public final class RoomTest {
    private static final com.sun.management.ThreadMXBean THREADS =
            (com.sun.management.ThreadMXBean) ManagementFactory.getThreadMXBean();

    public static void main(String[] args) {
        Due due = new Due();
        useAll(crowd());
        long before = made();
        NightDots sky = crowd();
        long forOne = made() - before;
        due.isTrue("a new object takes " + forOne + " bytes", forOne < 40_000);
        before = made();
        for (int round = 0; round < 20; round++) {
            useAll(sky);
        }
        long byCalls = made() - before;
        due.isTrue("calls took " + byCalls + " bytes", byCalls < 4_000);
        due.end();
    }

    private static long made() {
        return THREADS.getThreadAllocatedBytes(Thread.currentThread().getId());
    }

    /** 40 BITS on many NIGHTS and a PATH of eight DOTS. */
    private static NightDots crowd() {
        NightDots sky = new NightDots();
        for (int i = 0; i < 8; i++) {
            sky.dot(i, 0, 0, 0);
        }
        sky.single(0, 0);
        for (int i = 1; i < 8; i++) {
            sky.force(0, i);
        }
        for (int night = 1; night <= 13; night++) {
            for (int i = 0; i < 3; i++) {
                sky.dot(24 * night + i, 10 * i, 0, 0);
            }
        }
        return sky;
    }

    private static long useAll(NightDots sky) {
        long sum = sky.bits() + sky.pairs() + sky.pair(5, 1) + sky.bit(38, 0) + sky.about(3, 5);
        sum += sky.start(0, 1) + sky.join(0, 8) + sky.joinBit(0, 3) + sky.undo() + sky.single(9, 3) + sky.undo();
        sum += sky.heap(0) + sky.ahead(0, 400, 1) + sky.tellOff(20) + sky.path(0, 2) + sky.same(0, 1);
        sum += sky.fit(0, 0, 0, 0) + sky.miss(0, 3, 1, 0) + sky.part(0) + sky.merge(0, 1) + sky.undo() + sky.count(1);
        return sum;
    }
}
