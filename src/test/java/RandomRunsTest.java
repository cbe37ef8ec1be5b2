import java.util.ArrayDeque;
import java.util.Deque;
import java.util.Random;

/**
 * All promises: long runs of calls, the same ones each time, on NightDots and on the Model. What a
 * call needs to be a likely one is asked of the Model alone: the calls of an object are counted.
 */
public final class RandomRunsTest {
    private static final int RUNS = 40;
    private static final int FAR_RUNS = 20;
    private static final int CALLS = 460;

    private final Random random;
    private final Sky sky = new Sky();
    private final Model model = new Model();
    private final Deque<String> latest = new ArrayDeque<>();
    private final int[][] wanderers = new int[5][4];
    private boolean isRight = true;

    /** Far: the wanderers are about the ends of THE NET and are seen in all HOURS. */
    private final boolean isFar;

    private RandomRunsTest(long seed, boolean isFar) {
        random = new Random(seed);
        this.isFar = isFar;
        for (int[] line : wanderers) {
            line[0] = start();
            line[1] = speed();
            line[2] = start();
            line[3] = speed();
        }
    }

    private int start() {
        if (!isFar) {
            return 10 * random.nextInt(-40, 41);
        }
        return random.nextInt(3) == 0 ? random.nextInt(-2100, 2101) : random.nextInt(1950, 2060) * side();
    }

    private int speed() {
        if (!isFar) {
            return random.nextInt(-6, 7);
        }
        return random.nextBoolean() ? random.nextInt(-17, 18) : random.nextInt(16, 18) * side();
    }

    private int hour() {
        if (!isFar) {
            return random.nextInt(0, 120);
        }
        return random.nextInt(3) == 0 ? random.nextInt(0, 401) : random.nextInt(4) * 100 + random.nextInt(8);
    }

    private int side() {
        return random.nextBoolean() ? 1 : -1;
    }

    public static void main(String[] args) {
        Due due = new Due();
        for (int run = 0; run < RUNS + FAR_RUNS && due.wrong() == 0; run++) {
            RandomRunsTest test = new RandomRunsTest(run, run >= RUNS);
            due.isTrue("random run " + run, test.run());
        }
        due.end();
    }

    private boolean run() {
        int dots = random.nextInt(6, 50);
        for (int i = 0; i < dots; i++) {
            newDot();
        }
        for (int call = 0; call < CALLS && isRight; call++) {
            step();
        }
        return isRight;
    }

    private void same(String call, long got, long want) {
        latest.add(call + " = " + want);
        if (latest.size() > 500) {
            latest.remove();
        }
        if (got != want && isRight) {
            isRight = false;
            latest.forEach(System.out::println);
            System.out.println("the last one answered " + got);
        }
    }

    /** Mostly a number below a bound, at times one that is just wrong or wild. */
    private int pick(int bound) {
        int kind = random.nextInt(40);
        if (kind == 0) {
            return Skies.WILD[random.nextInt(Skies.WILD.length)];
        }
        return kind < 3 || bound < 1 ? random.nextInt(-1, Math.max(bound, 0) + 2) : random.nextInt(bound);
    }

    private void newDot() {
        int[] line = wanderers[random.nextInt(wanderers.length)];
        int hour = hour();
        int noise = random.nextInt(3) == 0 ? 40 : 8;
        int x = line[0] + line[1] * hour + random.nextInt(-noise, noise + 1);
        int y = line[2] + line[3] * hour + random.nextInt(-noise, noise + 1);
        dot(hour, x, y, random.nextInt(10));
    }

    private void dot(int hour, int x, int y, int watcher) {
        same("dot(" + hour + ", " + x + ", " + y + ", " + watcher + ")",
                sky.dot(hour, x, y, watcher), model.dot(hour, x, y, watcher));
    }

    private void step() {
        int kind = random.nextInt(100);
        if (kind < 45) {
            change(kind);
        } else if (kind < 75) {
            askPath(kind);
        } else {
            askSky(kind);
        }
    }

    /** A PATH; one that is GONE is mostly passed over. */
    private int pickPath() {
        int path = pick(model.count(3));
        for (int i = 0; i < 4 && model.path(path, 3) == 1; i++) {
            path = pick(model.count(3));
        }
        return path;
    }

    private void change(int kind) {
        int path = pickPath();
        int dot = pick(model.count(0));
        int name = pick(1000);
        if (kind < 1) {
            newDot();
        } else if (kind < 2) {
            int[] values = {pick(401), pick(18001) - 9000, pick(18001) - 9000, pick(10)};
            dot(values[0], values[1], values[2], values[3]);
        } else if (kind < 3) {
            int old = Math.max(0, Math.min(dot, model.count(0) - 1));
            dot(model.about(old, 0), model.about(old, 1), model.about(old, 2), pick(10));
        } else if (kind < 4) {
            int p = pick(21);
            same("pace(" + p + ")", sky.pace(p), model.pace(p));
        } else if (kind < 6) {
            changeNet();
        } else if (kind < 10) {
            int i = pick(model.pairs());
            same("start(" + i + ", " + name + ")", sky.start(i, name), model.start(i, name));
        } else if (kind < 13) {
            same("single(" + dot + ", " + name + ")", sky.single(dot, name), model.single(dot, name));
        } else if (kind < 20) {
            int near = random.nextInt(3) == 0 ? dot : fittingDot(path, dot);
            same("join(" + path + ", " + near + ")", sky.join(path, near), model.join(path, near));
        } else if (kind < 25) {
            int bit = pick(model.bits());
            same("joinBit(" + path + ", " + bit + ")", sky.joinBit(path, bit), model.joinBit(path, bit));
        } else {
            changeMore(kind, path, dot);
        }
    }

    private void changeMore(int kind, int path, int dot) {
        int other = pickPath();
        if (kind < 31) {
            same("force(" + path + ", " + dot + ")", sky.force(path, dot), model.force(path, dot));
        } else if (kind < 35) {
            same("part(" + path + ")", sky.part(path), model.part(path));
        } else if (kind < 40) {
            same("merge(" + path + ", " + other + ")", sky.merge(path, other), model.merge(path, other));
        } else {
            same("undo()", sky.undo(), model.undo());
        }
    }

    /** One of some DOTS that is TOLD OFF to the PATH, if there is one. */
    private int fittingDot(int path, int from) {
        for (int i = 0; i < Math.min(12, model.count(0)); i++) {
            int dot = Math.floorMod(from + i, model.count(0));
            if (model.tellOff(dot) == path) {
                return dot;
            }
        }
        return from;
    }

    private void changeNet() {
        int[] grids = {1, 7, 10, 10, 10, 25, 50, pick(51)};
        int[] ends = {0, 5, 10, 10, 20, 60, 200, pick(201)};
        int grid = grids[random.nextInt(grids.length)];
        int end = ends[random.nextInt(ends.length)];
        same("net(" + grid + ", " + end + ")", sky.net(grid, end), model.net(grid, end));
    }

    private void askPath(int kind) {
        int path = pickPath();
        int axis = pick(2);
        int part = pick(2);
        if (kind < 50) {
            int what = random.nextBoolean() ? pick(4) : 10 + pick(8);
            same("path(" + path + ", " + what + ")", sky.path(path, what), model.path(path, what));
        } else if (kind < 55) {
            same("heap(" + path + ")", sky.heap(path), model.heap(path));
        } else if (kind < 60) {
            int hour = pick(401);
            int what = pick(4);
            same("ahead(" + path + ", " + hour + ", " + what + ")", sky.ahead(path, hour, what), model.ahead(path, hour, what));
        } else if (kind < 65) {
            int what = pick(2);
            same("fit(" + path + ", " + axis + ", " + what + ", " + part + ")",
                    sky.fit(path, axis, what, part), model.fit(path, axis, what, part));
        } else if (kind < 70) {
            int i = pick(8);
            same("miss(" + path + ", " + i + ", " + axis + ", " + part + ")",
                    sky.miss(path, i, axis, part), model.miss(path, i, axis, part));
        } else {
            int other = pickPath();
            same("same(" + path + ", " + other + ")", sky.same(path, other), model.same(path, other));
        }
    }

    private void askSky(int kind) {
        int dot = pick(model.count(0));
        if (kind < 80) {
            int what = random.nextInt(3) == 0 ? pick(6) : 5;
            same("about(" + dot + ", " + what + ")", sky.about(dot, what), model.about(dot, what));
        } else if (kind < 83) {
            same("bits()", sky.bits(), model.bits());
        } else if (kind < 87) {
            int i = pick(model.bits());
            int what = pick(2);
            same("bit(" + i + ", " + what + ")", sky.bit(i, what), model.bit(i, what));
        } else if (kind < 89) {
            same("pairs()", sky.pairs(), model.pairs());
        } else if (kind < 91) {
            int i = pick(model.pairs());
            int what = pick(2);
            same("pair(" + i + ", " + what + ")", sky.pair(i, what), model.pair(i, what));
        } else if (kind < 95) {
            same("tellOff(" + dot + ")", sky.tellOff(dot), model.tellOff(dot));
        } else {
            int what = pick(8);
            same("count(" + what + ")", sky.count(what), model.count(what));
        }
    }
}
