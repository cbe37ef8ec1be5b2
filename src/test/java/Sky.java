/**
 * A NightDots as the document lets it be used: it is asked at most 512 times, as what later calls
 * answer is free. A test that asks more often than that ends at once.
 */
final class Sky {
    private static final int MOST_CALLS = 512;

    private final NightDots asked = new NightDots();
    private int calls;

    private NightDots ask() {
        if (calls == MOST_CALLS) {
            throw new IllegalStateException("a test makes more than " + MOST_CALLS + " calls on one object");
        }
        calls++;
        return asked;
    }

    int callsLeft() {
        return MOST_CALLS - calls;
    }

    int dot(int hour, int x, int y, int watcher) {
        return ask().dot(hour, x, y, watcher);
    }

    int pace(int p) {
        return ask().pace(p);
    }

    int net(int grid, int end) {
        return ask().net(grid, end);
    }

    int about(int dot, int what) {
        return ask().about(dot, what);
    }

    int bits() {
        return ask().bits();
    }

    int bit(int i, int what) {
        return ask().bit(i, what);
    }

    int pairs() {
        return ask().pairs();
    }

    int pair(int i, int what) {
        return ask().pair(i, what);
    }

    int start(int i, int name) {
        return ask().start(i, name);
    }

    int single(int dot, int name) {
        return ask().single(dot, name);
    }

    int join(int path, int dot) {
        return ask().join(path, dot);
    }

    int joinBit(int path, int bit) {
        return ask().joinBit(path, bit);
    }

    int force(int path, int dot) {
        return ask().force(path, dot);
    }

    int path(int path, int what) {
        return ask().path(path, what);
    }

    long heap(int path) {
        return ask().heap(path);
    }

    long ahead(int path, int hour, int what) {
        return ask().ahead(path, hour, what);
    }

    int tellOff(int dot) {
        return ask().tellOff(dot);
    }

    long fit(int path, int axis, int what, int part) {
        return ask().fit(path, axis, what, part);
    }

    long miss(int path, int i, int axis, int part) {
        return ask().miss(path, i, axis, part);
    }

    int part(int path) {
        return ask().part(path);
    }

    int same(int a, int b) {
        return ask().same(a, b);
    }

    int merge(int a, int b) {
        return ask().merge(a, b);
    }

    int undo() {
        return ask().undo();
    }

    int count(int what) {
        return ask().count(what);
    }
}
