import java.math.BigInteger;
import java.util.ArrayDeque;
import java.util.ArrayList;
import java.util.Deque;
import java.util.List;

/**
 * The document word by word, slow and plain, to hold NightDots against: every line of THE NET is
 * tried, every set of leaving DOTS is tried, and an act is taken back by a copy of all rows.
 */
final class Model {
    private static final int NONE = -1, BAD = -2, STATE = -3, FULL = -4;
    private static final long NO = Long.MIN_VALUE;

    private record Dot(int hour, int x, int y, int watcher) {
        int place(int axis) {
            return axis == 0 ? x : y;
        }
    }

    private record Bit(int first, int second) {
    }

    /** `dots` is null if the PATH is GONE. */
    private record Path(int name, List<Integer> dots) {
    }

    private final List<Dot> dots = new ArrayList<>();
    private List<Path> paths = new ArrayList<>();
    private final Deque<List<Path>> undo = new ArrayDeque<>();
    private int pace = 10;
    private int grid = 10;
    private int end = 10;

    private static boolean in(int n, int least, int greatest) {
        return least <= n && n <= greatest;
    }

    private boolean isDot(int dot) {
        return in(dot, 0, dots.size() - 1);
    }

    private boolean isPath(int path) {
        return in(path, 0, paths.size() - 1) && paths.get(path).dots != null;
    }

    private int pathOf(int dot) {
        for (int path = 0; path < paths.size(); path++) {
            if (isPath(path) && paths.get(path).dots.contains(dot)) {
                return path;
            }
        }
        return NONE;
    }

    private boolean isFree(int dot) {
        return pathOf(dot) == NONE;
    }

    /** The lines {start, speed} by one axis that fit all; all of them, or the first one alone. */
    private List<int[]> lines(List<Integer> row, int axis, boolean all) {
        int[] hours = row.stream().mapToInt(dot -> dots.get(dot).hour).toArray();
        int[] places = row.stream().mapToInt(dot -> dots.get(dot).place(axis)).toArray();
        List<int[]> found = new ArrayList<>();
        for (int start = -2000; start <= 2000; start++) {
            for (int speed = -20; speed <= 20 && start % grid == 0; speed++) {
                if (fits(hours, places, start, speed)) {
                    found.add(new int[] {start, speed});
                    if (!all) {
                        return found;
                    }
                }
            }
        }
        return found;
    }

    private boolean fits(int[] hours, int[] places, int start, int speed) {
        for (int i = 0; i < hours.length; i++) {
            if (Math.abs(start + speed * hours[i] - places[i]) > end) {
                return false;
            }
        }
        return true;
    }

    private boolean sound(List<Integer> row) {
        return !lines(row, 0, false).isEmpty() && !lines(row, 1, false).isEmpty();
    }

    private void act() {
        undo.push(new ArrayList<>(paths));
        if (undo.size() > 30) {
            undo.removeLast();
        }
    }

    private List<Bit> allBits() {
        List<Bit> found = new ArrayList<>();
        for (int i = 0; i < dots.size(); i++) {
            for (int k = 0; k < dots.size(); k++) {
                Dot a = dots.get(i);
                Dot b = dots.get(k);
                int reach = pace * (b.hour - a.hour);
                if (a.hour < b.hour && a.hour / 24 == b.hour / 24 && Math.abs(a.x - b.x) <= reach
                        && Math.abs(a.y - b.y) <= reach && isFree(i) && isFree(k)) {
                    found.add(new Bit(i, k));
                }
            }
        }
        return found;
    }

    private List<Integer> dotsOf(Bit a, Bit b) {
        return List.of(a.first, a.second, b.first, b.second);
    }

    /** null: there are too many BITS. */
    private List<int[]> allPairs() {
        List<Bit> bits = allBits();
        if (bits.size() > 40) {
            return null;
        }
        List<int[]> found = new ArrayList<>();
        for (int a = 0; a < bits.size(); a++) {
            for (int b = a + 1; b < bits.size(); b++) {
                boolean unlike = dots.get(bits.get(a).first).hour / 24 != dots.get(bits.get(b).first).hour / 24;
                if (unlike && sound(dotsOf(bits.get(a), bits.get(b)))) {
                    found.add(new int[] {a, b});
                }
            }
        }
        return found;
    }

    int dot(int hour, int x, int y, int watcher) {
        if (!in(hour, 0, 400) || !in(x, -9000, 9000) || !in(y, -9000, 9000) || !in(watcher, 0, 9)) {
            return BAD;
        }
        for (int i = 0; i < dots.size(); i++) {
            Dot dot = dots.get(i);
            if (dot.hour == hour && dot.x == x && dot.y == y) {
                return i;
            }
        }
        if (dots.size() == 60) {
            return FULL;
        }
        dots.add(new Dot(hour, x, y, watcher));
        undo.clear();
        return dots.size() - 1;
    }

    int pace(int p) {
        if (!in(p, 1, 20)) {
            return BAD;
        }
        int was = pace;
        pace = p;
        return was;
    }

    int net(int newGrid, int newEnd) {
        if (!in(newGrid, 1, 50) || !in(newEnd, 0, 200)) {
            return BAD;
        }
        grid = newGrid;
        end = newEnd;
        return 0;
    }

    int about(int dot, int what) {
        if (!isDot(dot) || !in(what, 0, 5)) {
            return NONE;
        }
        Dot one = dots.get(dot);
        return new int[] {one.hour, one.x, one.y, one.watcher, one.hour / 24, pathOf(dot)}[what];
    }

    int bits() {
        return allBits().size();
    }

    int bit(int i, int what) {
        List<Bit> bits = allBits();
        if (!in(i, 0, bits.size() - 1) || !in(what, 0, 1)) {
            return NONE;
        }
        return what == 0 ? bits.get(i).first : bits.get(i).second;
    }

    int pairs() {
        List<int[]> pairs = allPairs();
        return pairs == null ? -1 : pairs.size();
    }

    int pair(int i, int what) {
        List<int[]> pairs = allPairs();
        return pairs == null || !in(i, 0, pairs.size() - 1) || !in(what, 0, 1) ? NONE : pairs.get(i)[what];
    }

    private int begin(int name, List<Integer> row) {
        if (paths.size() == 12) {
            return FULL;
        }
        act();
        paths.add(new Path(name, row));
        return paths.size() - 1;
    }

    int start(int i, int name) {
        List<int[]> pairs = allPairs();
        if (pairs == null || !in(i, 0, pairs.size() - 1)) {
            return NONE;
        }
        if (!in(name, 0, 999)) {
            return BAD;
        }
        List<Bit> bits = allBits();
        return begin(name, dotsOf(bits.get(pairs.get(i)[0]), bits.get(pairs.get(i)[1])));
    }

    int single(int dot, int name) {
        if (!isDot(dot)) {
            return NONE;
        }
        if (!in(name, 0, 999)) {
            return BAD;
        }
        return !isFree(dot) || !sound(List.of(dot)) ? STATE : begin(name, List.of(dot));
    }

    private int lengthen(int path, boolean byForce, Integer... more) {
        List<Integer> row = new ArrayList<>(paths.get(path).dots);
        row.addAll(List.of(more));
        if (!isFree(more[0]) || !byForce && !sound(row)) {
            return STATE;
        }
        if (row.size() > 8) {
            return FULL;
        }
        act();
        paths.set(path, new Path(paths.get(path).name, row));
        return row.size();
    }

    int join(int path, int dot) {
        return !isPath(path) || !isDot(dot) ? NONE : lengthen(path, false, dot);
    }

    int joinBit(int path, int bit) {
        List<Bit> bits = allBits();
        if (!isPath(path) || !in(bit, 0, bits.size() - 1)) {
            return NONE;
        }
        return lengthen(path, false, bits.get(bit).first, bits.get(bit).second);
    }

    int force(int path, int dot) {
        return !isPath(path) || !isDot(dot) ? NONE : lengthen(path, true, dot);
    }

    int path(int path, int what) {
        if (!in(path, 0, paths.size() - 1)) {
            return NONE;
        }
        List<Integer> row = paths.get(path).dots;
        switch (what) {
            case 0:
                return paths.get(path).name;
            case 1:
                return row == null ? 0 : row.size();
            case 2:
                return row != null && sound(row) ? 1 : 0;
            case 3:
                return row == null ? 1 : 0;
            default:
                return row != null && what >= 10 && what - 10 < row.size() ? row.get(what - 10) : NONE;
        }
    }

    long heap(int path) {
        if (!isPath(path)) {
            return -1;
        }
        List<Integer> row = paths.get(path).dots;
        return (long) lines(row, 0, true).size() * lines(row, 1, true).size();
    }

    long ahead(int path, int hour, int what) {
        if (!isPath(path) || !in(hour, 0, 400) || !in(what, 0, 3) || !sound(paths.get(path).dots)) {
            return NO;
        }
        List<int[]> lines = lines(paths.get(path).dots, what / 2, true);
        var there = lines.stream().mapToInt(line -> line[0] + line[1] * hour);
        return what % 2 == 0 ? there.min().orElseThrow() : there.max().orElseThrow();
    }

    int tellOff(int dot) {
        if (!isDot(dot) || !isFree(dot)) {
            return NONE;
        }
        List<Integer> near = new ArrayList<>();
        for (int path = 0; path < paths.size(); path++) {
            if (isPath(path) && sound(paths.get(path).dots) && isNear(path, dots.get(dot))) {
                near.add(path);
            }
        }
        return near.size() == 1 ? near.get(0) : NONE;
    }

    private boolean isNear(int path, Dot dot) {
        return ahead(path, dot.hour, 0) - end <= dot.x && dot.x <= ahead(path, dot.hour, 1) + end
                && ahead(path, dot.hour, 2) - end <= dot.y && dot.y <= ahead(path, dot.hour, 3) + end;
    }

    private record Fraction(BigInteger top, BigInteger below) {
        static Fraction of(long n) {
            return new Fraction(BigInteger.valueOf(n), BigInteger.ONE);
        }

        Fraction minus(Fraction b) {
            return new Fraction(top.multiply(b.below).subtract(b.top.multiply(below)), below.multiply(b.below));
        }

        Fraction times(Fraction b) {
            return new Fraction(top.multiply(b.top), below.multiply(b.below));
        }

        Fraction by(Fraction b) {
            return new Fraction(top.multiply(b.below), below.multiply(b.top));
        }

        long part(int part) {
            BigInteger divisor = top.gcd(below).multiply(BigInteger.valueOf(below.signum()));
            return (part == 0 ? top : below).divide(divisor).longValueExact();
        }
    }

    /** {p, v}; null: there is none. */
    private Fraction[] fitted(int path, int axis) {
        if (!isPath(path) || !in(axis, 0, 1)) {
            return null;
        }
        long n = 0, t = 0, x = 0, tt = 0, tx = 0;
        for (int i : paths.get(path).dots) {
            long hour = dots.get(i).hour;
            long place = dots.get(i).place(axis);
            n++;
            t += hour;
            x += place;
            tt += hour * hour;
            tx += hour * place;
        }
        if (n * tt - t * t == 0) {
            return null;
        }
        Fraction v = Fraction.of(n * tx - t * x).by(Fraction.of(n * tt - t * t));
        Fraction p = Fraction.of(x).minus(v.times(Fraction.of(t))).by(Fraction.of(n));
        return new Fraction[] {p, v};
    }

    long fit(int path, int axis, int what, int part) {
        Fraction[] line = fitted(path, axis);
        return line == null || !in(what, 0, 1) || !in(part, 0, 1) ? NO : line[what].part(part);
    }

    long miss(int path, int i, int axis, int part) {
        Fraction[] line = fitted(path, axis);
        if (line == null || !in(i, 0, paths.get(path).dots.size() - 1) || !in(part, 0, 1)) {
            return NO;
        }
        Dot dot = dots.get(paths.get(path).dots.get(i));
        Fraction off = Fraction.of(dot.place(axis)).minus(line[0]).minus(line[1].times(Fraction.of(dot.hour)));
        return Math.abs(off.part(part));
    }

    int part(int path) {
        if (!isPath(path)) {
            return NONE;
        }
        List<Integer> row = paths.get(path).dots;
        for (int leave = 0; leave <= row.size(); leave++) {
            List<Integer> staying = firstSoundWithout(row, 0, leave, new ArrayList<>());
            if (staying != null) {
                if (leave > 0) {
                    act();
                    paths.set(path, new Path(paths.get(path).name, staying));
                }
                return leave;
            }
        }
        throw new IllegalStateException("no DOTS always are SOUND");
    }

    /** Tries first that the DOT at a place leaves, then that it stays. */
    private List<Integer> firstSoundWithout(List<Integer> row, int place, int leave, List<Integer> stay) {
        if (place == row.size()) {
            return leave == 0 && sound(stay) ? new ArrayList<>(stay) : null;
        }
        List<Integer> found = leave > 0 ? firstSoundWithout(row, place + 1, leave - 1, stay) : null;
        if (found == null) {
            stay.add(row.get(place));
            found = firstSoundWithout(row, place + 1, leave, stay);
            stay.remove(stay.size() - 1);
        }
        return found;
    }

    private List<Integer> both(int a, int b) {
        List<Integer> row = new ArrayList<>(paths.get(Math.min(a, b)).dots);
        row.addAll(paths.get(Math.max(a, b)).dots);
        return row;
    }

    int same(int a, int b) {
        if (!isPath(a) || !isPath(b)) {
            return NONE;
        }
        return a == b ? BAD : sound(both(a, b)) ? 1 : 0;
    }

    int merge(int a, int b) {
        int same = same(a, b);
        if (same < 0) {
            return same;
        }
        if (same == 0) {
            return STATE;
        }
        List<Integer> row = both(a, b);
        if (row.size() > 8) {
            return FULL;
        }
        act();
        int stays = Math.min(a, b);
        int goes = Math.max(a, b);
        paths.set(stays, new Path(paths.get(stays).name, row));
        paths.set(goes, new Path(paths.get(goes).name, null));
        return stays;
    }

    int undo() {
        if (undo.isEmpty()) {
            return STATE;
        }
        List<Path> before = undo.pop();
        for (int path = before.size(); path < paths.size(); path++) {
            before.add(new Path(paths.get(path).name, null));
        }
        paths = before;
        return undo.size();
    }

    int count(int what) {
        int free = 0;
        for (int dot = 0; dot < dots.size(); dot++) {
            free += isFree(dot) ? 1 : 0;
        }
        int there = 0;
        for (int path = 0; path < paths.size(); path++) {
            there += isPath(path) ? 1 : 0;
        }
        int[] all = {dots.size(), free, there, paths.size(), pace, grid, end, undo.size()};
        return in(what, 0, 7) ? all[what] : NONE;
    }
}
