/**
 * Faint dots on many nights, joined to wanderers. README.md tells how it is used; the words in
 * capitals of the document are kept as names here. No call makes an object: all rows are made by
 * the constructor.
 */
public final class NightDots {
    public static final int NONE = -1, BAD = -2, STATE = -3, FULL = -4;
    public static final long NO = Long.MIN_VALUE;

    private static final int MOST_DOTS = 60;
    private static final int LAST_HOUR = 400;
    private static final int FARTHEST = 9000;
    private static final int LAST_WATCHER = 9;
    private static final int HOURS_A_NIGHT = 24;
    private static final int MOST_PACE = 20;
    private static final int MOST_GRID = 50;
    private static final int MOST_END = 200;
    private static final int MOST_PATHS = 12;
    private static final int MOST_ROW = 8;
    private static final int LAST_NAME = 999;
    private static final int MOST_PAIRED_BITS = 40;
    private static final int MOST_PAIRS = MOST_PAIRED_BITS * (MOST_PAIRED_BITS - 1) / 2;
    private static final int MOST_ACTS = 30;
    private static final int X = 0, Y = 1;
    private static final int FIRST_DOT_WHAT = 10;

    private final Sky sky;
    private final Net lines;
    private final BitList twos;
    private final PairList fours;
    private final Wanderers wanderers;
    private final Acts acts;
    private final Line line;
    /** The DOTS whose HEAP is asked for; used anew by every call. */
    private final Row group;

    public NightDots() {
        sky = new Sky();
        lines = new Net(sky);
        twos = new BitList(sky);
        fours = new PairList(sky, lines, twos);
        wanderers = new Wanderers(sky);
        acts = new Acts();
        line = new Line();
        group = new Row();
    }

    // ---- dots, PACE and THE NET

    public int dot(int hour, int x, int y, int watcher) {
        if (!isWithin(hour, 0, LAST_HOUR) || !isWithin(x, -FARTHEST, FARTHEST)
                || !isWithin(y, -FARTHEST, FARTHEST) || !isWithin(watcher, 0, LAST_WATCHER)) {
            return BAD;
        }
        int there = sky.find(hour, x, y);
        if (there != NONE) {
            return there;
        }
        int dot = sky.add(hour, x, y, watcher);
        if (dot != FULL) {
            acts.forgetAll();
            fours.forget();
        }
        return dot;
    }

    public int pace(int p) {
        if (!isWithin(p, 1, MOST_PACE)) {
            return BAD;
        }
        int was = twos.pace;
        twos.pace = p;
        fours.forget();
        return was;
    }

    public int net(int grid, int end) {
        if (!isWithin(grid, 1, MOST_GRID) || !isWithin(end, 0, MOST_END)) {
            return BAD;
        }
        lines.grid = grid;
        lines.end = end;
        fours.forget();
        return 0;
    }

    public int about(int dot, int what) {
        if (!sky.has(dot)) {
            return NONE;
        }
        switch (what) {
            case 0:
                return sky.hour[dot];
            case 1:
                return sky.x[dot];
            case 2:
                return sky.y[dot];
            case 3:
                return sky.watcher[dot];
            case 4:
                return sky.nightOf(dot);
            case 5:
                return sky.path[dot];
            default:
                return NONE;
        }
    }

    // ---- bits and pairs

    public int bits() {
        return twos.total();
    }

    public int bit(int i, int what) {
        if (!isWithin(what, 0, 1) || !twos.seek(i)) {
            return NONE;
        }
        return what == 0 ? twos.first : twos.second;
    }

    public int pairs() {
        return fours.total();
    }

    public int pair(int i, int what) {
        if (!isWithin(what, 0, 1) || !isWithin(i, 0, fours.total() - 1)) {
            return NONE;
        }
        return what == 0 ? fours.one[i] : fours.other[i];
    }

    // ---- paths

    public int start(int i, int name) {
        if (!isWithin(i, 0, fours.total() - 1)) {
            return NONE;
        }
        if (!isName(name)) {
            return BAD;
        }
        fours.gather(fours.one[i], fours.other[i], group);
        return begin(name);
    }

    public int single(int dot, int name) {
        if (!sky.has(dot)) {
            return NONE;
        }
        if (!isName(name)) {
            return BAD;
        }
        group.clear();
        group.add(dot);
        if (!sky.isFree(dot) || !lines.isSound(group)) {
            return STATE;
        }
        return begin(name);
    }

    public int join(int path, int dot) {
        if (!wanderers.has(path) || !sky.has(dot)) {
            return NONE;
        }
        if (!sky.isFree(dot)) {
            return STATE;
        }
        group.become(wanderers.list[path].row);
        group.add(dot);
        return joinGroup(path);
    }

    public int joinBit(int path, int bit) {
        if (!wanderers.has(path) || !twos.seek(bit)) {
            return NONE;
        }
        group.become(wanderers.list[path].row);
        group.add(twos.first);
        group.add(twos.second);
        return joinGroup(path);
    }

    public int force(int path, int dot) {
        if (!wanderers.has(path) || !sky.has(dot)) {
            return NONE;
        }
        if (!sky.isFree(dot)) {
            return STATE;
        }
        group.become(wanderers.list[path].row);
        group.add(dot);
        return group.length > MOST_ROW ? FULL : lengthen(path);
    }

    public int path(int path, int what) {
        if (!isWithin(path, 0, wanderers.ever - 1)) {
            return NONE;
        }
        Wanderer one = wanderers.list[path];
        switch (what) {
            case 0:
                return one.name;
            case 1:
                return one.gone ? 0 : one.row.length;
            case 2:
                return !one.gone && lines.isSound(one.row) ? 1 : 0;
            case 3:
                return one.gone ? 1 : 0;
            default:
                return one.gone ? NONE : dotOfRow(one.row, what);
        }
    }

    public long heap(int path) {
        return wanderers.has(path) ? lines.linesOf(wanderers.list[path].row) : NONE;
    }

    public long ahead(int path, int hour, int what) {
        if (!wanderers.has(path) || !isWithin(hour, 0, LAST_HOUR) || !isWithin(what, 0, 3)) {
            return NO;
        }
        Row row = wanderers.list[path].row;
        if (!lines.isSound(row)) {
            return NO;
        }
        return lines.edge(row, what < 2 ? X : Y, hour, what % 2 == 1);
    }

    public int tellOff(int dot) {
        if (!sky.has(dot) || !sky.isFree(dot)) {
            return NONE;
        }
        int only = NONE;
        for (int path = 0; path < wanderers.ever; path++) {
            if (wanderers.has(path) && lines.reaches(wanderers.list[path].row, dot)) {
                if (only != NONE) {
                    return NONE;
                }
                only = path;
            }
        }
        return only;
    }

    public long fit(int path, int axis, int what, int part) {
        if (!isWithin(what, 0, 1) || !isWithin(part, 0, 1) || !lay(path, axis)) {
            return NO;
        }
        if (what == 0) {
            return Line.reduced(line.placeTop(), line.placeBelow(), part);
        }
        return Line.reduced(line.speedTop, line.speedBelow, part);
    }

    public long miss(int path, int i, int axis, int part) {
        if (!isWithin(part, 0, 1) || !lay(path, axis)) {
            return NO;
        }
        Row row = wanderers.list[path].row;
        if (!isWithin(i, 0, row.length - 1)) {
            return NO;
        }
        int dot = row.dots[i];
        long top = line.missTop(sky.hour[dot], sky.placeOf(dot, axis));
        return Line.reduced(top, line.placeBelow(), part);
    }

    public int part(int path) {
        if (!wanderers.has(path)) {
            return NONE;
        }
        Row row = wanderers.list[path].row;
        int leaving = parting(row);
        // A SOUND path is left as it is: nothing was done that could be taken back.
        if (leaving == 0) {
            return 0;
        }
        int was = row.length;
        keepStaying(row, leaving);
        changeRow(path);
        return was - group.length;
    }

    public int same(int a, int b) {
        if (!wanderers.has(a) || !wanderers.has(b)) {
            return NONE;
        }
        if (a == b) {
            return BAD;
        }
        gatherBoth(a, b);
        return lines.isSound(group) ? 1 : 0;
    }

    public int merge(int a, int b) {
        if (!wanderers.has(a) || !wanderers.has(b)) {
            return NONE;
        }
        if (a == b) {
            return BAD;
        }
        int stays = Math.min(a, b);
        int goes = Math.max(a, b);
        gatherBoth(stays, goes);
        if (!lines.isSound(group)) {
            return STATE;
        }
        if (group.length > MOST_ROW) {
            return FULL;
        }
        Act act = changeRow(stays);
        act.swallowed = goes;
        wanderers.list[goes].gone = true;
        return stays;
    }

    public int undo() {
        Act act = acts.takeLatest();
        if (act == null) {
            return STATE;
        }
        wanderers.replaceRow(act.path, act.before);
        if (act.born) {
            wanderers.list[act.path].gone = true;
        }
        if (act.swallowed != NONE) {
            wanderers.bringBack(act.swallowed);
        }
        fours.forget();
        return acts.kept;
    }

    public int count(int what) {
        switch (what) {
            case 0:
                return sky.size;
            case 1:
                return sky.freeOnes();
            case 2:
                return wanderers.notGone();
            case 3:
                return wanderers.ever;
            case 4:
                return twos.pace;
            case 5:
                return lines.grid;
            case 6:
                return lines.end;
            case 7:
                return acts.kept;
            default:
                return NONE;
        }
    }

    // ---- what several calls share

    private static boolean isWithin(int number, int least, int greatest) {
        return number >= least && number <= greatest;
    }

    private static boolean isName(int name) {
        return isWithin(name, 0, LAST_NAME);
    }

    private static int dotOfRow(Row row, int what) {
        if (what < FIRST_DOT_WHAT || what - FIRST_DOT_WHAT >= row.length) {
            return NONE;
        }
        return row.dots[what - FIRST_DOT_WHAT];
    }

    /** A new PATH of the group's DOTS. */
    private int begin(int name) {
        int path = wanderers.add(name);
        if (path != FULL) {
            Act act = changeRow(path);
            act.born = true;
        }
        return path;
    }

    /** The group is the PATH's row with the new DOTS behind it. */
    private int joinGroup(int path) {
        if (!lines.isSound(group)) {
            return STATE;
        }
        return group.length > MOST_ROW ? FULL : lengthen(path);
    }

    private int lengthen(int path) {
        changeRow(path);
        return group.length;
    }

    /** The group becomes the PATH's row; how it was is kept, to be taken back. */
    private Act changeRow(int path) {
        Act act = acts.keep(path, wanderers.list[path].row);
        wanderers.replaceRow(path, group);
        fours.forget();
        return act;
    }

    private void gatherBoth(int before, int behind) {
        group.become(wanderers.list[before].row);
        group.addAll(wanderers.list[behind].row);
    }

    /** Lays the line through a PATH's DOTS by an axis; false: there is none. */
    private boolean lay(int path, int axis) {
        return wanderers.has(path) && isWithin(axis, X, Y)
                && line.through(sky, wanderers.list[path].row, axis);
    }

    /**
     * The places of a row that leave by THE PARTING, as a mask. The first place is the highest bit:
     * so, of two sets, the one that has the first place at which they differ is the greater mask,
     * and it is met first on the way down.
     */
    private int parting(Row row) {
        int best = (1 << row.length) - 1;
        for (int leaving = best; leaving >= 0; leaving--) {
            if (Integer.bitCount(leaving) < Integer.bitCount(best)) {
                keepStaying(row, leaving);
                if (lines.isSound(group)) {
                    best = leaving;
                }
            }
        }
        return best;
    }

    private void keepStaying(Row row, int leaving) {
        group.clear();
        for (int place = 0; place < row.length; place++) {
            if ((leaving >> (row.length - 1 - place) & 1) == 0) {
                group.add(row.dots[place]);
            }
        }
    }

    /** Numbers of DOTS in their order. */
    private static final class Row {
        /** Two whole rows of PATHS: the HEAP of both is asked for before they are found too long. */
        static final int ROOM = 2 * MOST_ROW;

        final int[] dots = new int[ROOM];
        int length;

        void clear() {
            length = 0;
        }

        void add(int dot) {
            if (length < ROOM) {
                dots[length] = dot;
                length++;
            }
        }

        void addAll(Row more) {
            for (int i = 0; i < more.length; i++) {
                add(more.dots[i]);
            }
        }

        void become(Row like) {
            clear();
            addAll(like);
        }
    }

    /** All DOTS, each with the PATH that it is in. */
    private static final class Sky {
        final int[] hour = new int[MOST_DOTS];
        final int[] x = new int[MOST_DOTS];
        final int[] y = new int[MOST_DOTS];
        final int[] watcher = new int[MOST_DOTS];
        final int[] path = new int[MOST_DOTS];
        int size;

        boolean has(int dot) {
            return dot >= 0 && dot < size;
        }

        boolean isFree(int dot) {
            return path[dot] == NONE;
        }

        int nightOf(int dot) {
            return hour[dot] / HOURS_A_NIGHT;
        }

        int placeOf(int dot, int axis) {
            return axis == X ? x[dot] : y[dot];
        }

        int find(int atHour, int atX, int atY) {
            for (int dot = 0; dot < size; dot++) {
                if (hour[dot] == atHour && x[dot] == atX && y[dot] == atY) {
                    return dot;
                }
            }
            return NONE;
        }

        int add(int atHour, int atX, int atY, int by) {
            if (size >= MOST_DOTS) {
                return FULL;
            }
            int dot = size;
            hour[dot] = atHour;
            x[dot] = atX;
            y[dot] = atY;
            watcher[dot] = by;
            path[dot] = NONE;
            size++;
            return dot;
        }

        int freeOnes() {
            int free = 0;
            for (int dot = 0; dot < size; dot++) {
                if (isFree(dot)) {
                    free++;
                }
            }
            return free;
        }

        void putAll(Row row, int into) {
            for (int i = 0; i < row.length; i++) {
                path[row.dots[i]] = into;
            }
        }
    }

    /**
     * THE NET. What a line has in x says nothing of what it has in y, so a HEAP is told by axes:
     * for each speed the starts that fit are all multiples of GRID between two ends.
     */
    private static final class Net {
        static final int REACH = 2000;
        static final int FASTEST = 20;

        final Sky sky;
        int grid = 10;
        int end = 10;
        /** The least and the greatest start that span() found, by GRID. */
        private int least;
        private int greatest;

        Net(Sky sky) {
            this.sky = sky;
        }

        /** Finds the starts that, at one speed, FIT all DOTS of a row by an axis; false: none. */
        private boolean span(Row row, int axis, int speed) {
            int low = -REACH;
            int high = REACH;
            for (int i = 0; i < row.length && low <= high; i++) {
                int dot = row.dots[i];
                int start = sky.placeOf(dot, axis) - speed * sky.hour[dot];
                low = Math.max(low, start - end);
                high = Math.min(high, start + end);
            }
            int step = Math.max(1, grid);
            least = -Math.floorDiv(-low, step);
            greatest = Math.floorDiv(high, step);
            return least <= greatest;
        }

        private long linesBy(Row row, int axis) {
            long found = 0;
            for (int speed = -FASTEST; speed <= FASTEST; speed++) {
                if (span(row, axis, speed)) {
                    found += greatest - least + 1;
                }
            }
            return found;
        }

        long linesOf(Row row) {
            return linesBy(row, X) * linesBy(row, Y);
        }

        private boolean isSoundBy(Row row, int axis) {
            for (int speed = -FASTEST; speed <= FASTEST; speed++) {
                if (span(row, axis, speed)) {
                    return true;
                }
            }
            return false;
        }

        boolean isSound(Row row) {
            return isSoundBy(row, X) && isSoundBy(row, Y);
        }

        /** The least or the greatest place by an axis that lines of the HEAP have at an HOUR. */
        long edge(Row row, int axis, int hour, boolean wantsGreatest) {
            long best = NO;
            for (int speed = -FASTEST; speed <= FASTEST; speed++) {
                if (span(row, axis, speed)) {
                    long there = (long) (wantsGreatest ? greatest : least) * grid + speed * hour;
                    if (best == NO || (wantsGreatest ? there > best : there < best)) {
                        best = there;
                    }
                }
            }
            return best;
        }

        private boolean reachesBy(Row row, int dot, int axis) {
            int place = sky.placeOf(dot, axis);
            int hour = sky.hour[dot];
            return place >= edge(row, axis, hour, false) - end
                    && place <= edge(row, axis, hour, true) + end;
        }

        /** Whether a DOT is where the row's HEAP is AHEAD, with END more on both sides. */
        boolean reaches(Row row, int dot) {
            return isSound(row) && reachesBy(row, dot, X) && reachesBy(row, dot, Y);
        }
    }

    /** BITS, found anew whenever they are asked for. */
    private static final class BitList {
        final Sky sky;
        int pace = 10;
        /** The DOTS of the BIT that seek() found. */
        int first;
        int second;

        BitList(Sky sky) {
            this.sky = sky;
        }

        boolean isBit(int early, int late) {
            int hours = sky.hour[late] - sky.hour[early];
            return hours > 0 && sky.isFree(early) && sky.isFree(late)
                    && sky.nightOf(early) == sky.nightOf(late)
                    && Math.abs(sky.x[late] - sky.x[early]) <= pace * hours
                    && Math.abs(sky.y[late] - sky.y[early]) <= pace * hours;
        }

        int total() {
            int found = 0;
            for (int early = 0; early < sky.size; early++) {
                for (int late = 0; late < sky.size; late++) {
                    if (isBit(early, late)) {
                        found++;
                    }
                }
            }
            return found;
        }

        /** Finds BIT i; false: there is none. */
        boolean seek(int i) {
            int before = i;
            for (int early = 0; early < sky.size && before >= 0; early++) {
                for (int late = 0; late < sky.size; late++) {
                    if (isBit(early, late)) {
                        if (before == 0) {
                            first = early;
                            second = late;
                            return true;
                        }
                        before--;
                    }
                }
            }
            return false;
        }
    }

    /**
     * THE PAIRS. They are dear to find and asked for one by one, so they are kept until something
     * is changed that they hang on.
     */
    private static final class PairList {
        final Sky sky;
        final Net lines;
        final BitList twos;
        final int[] one = new int[MOST_PAIRS];
        final int[] other = new int[MOST_PAIRS];
        private final int[] first = new int[MOST_PAIRED_BITS];
        private final int[] second = new int[MOST_PAIRED_BITS];
        private final Row four = new Row();
        private int bitsFound;
        private int found;
        private boolean isKnown;

        PairList(Sky sky, Net lines, BitList twos) {
            this.sky = sky;
            this.lines = lines;
            this.twos = twos;
        }

        void forget() {
            isKnown = false;
        }

        /** How many THE PAIRS are; NONE: there are too many BITS. */
        int total() {
            if (!isKnown) {
                findBits();
                findPairs();
                isKnown = true;
            }
            return bitsFound > MOST_PAIRED_BITS ? NONE : found;
        }

        /** The DOTS of two BITS that total() has found. */
        void gather(int a, int b, Row into) {
            into.clear();
            into.add(first[a]);
            into.add(second[a]);
            into.add(first[b]);
            into.add(second[b]);
        }

        private void findBits() {
            bitsFound = 0;
            for (int early = 0; early < sky.size; early++) {
                for (int late = 0; late < sky.size; late++) {
                    if (twos.isBit(early, late)) {
                        keepBit(early, late);
                    }
                }
            }
        }

        private void keepBit(int early, int late) {
            if (bitsFound < MOST_PAIRED_BITS) {
                first[bitsFound] = early;
                second[bitsFound] = late;
            }
            bitsFound++;
        }

        private void findPairs() {
            found = 0;
            if (bitsFound > MOST_PAIRED_BITS) {
                return;
            }
            for (int a = 0; a < bitsFound; a++) {
                for (int b = a + 1; b < bitsFound; b++) {
                    gather(a, b, four);
                    if (areOfUnlikeNights(a, b) && lines.isSound(four)) {
                        keepPair(a, b);
                    }
                }
            }
        }

        /** Such BITS have no common DOT either: both DOTS of a BIT are of its NIGHT. */
        private boolean areOfUnlikeNights(int a, int b) {
            return sky.nightOf(first[a]) != sky.nightOf(first[b]);
        }

        private void keepPair(int a, int b) {
            if (found < MOST_PAIRS) {
                one[found] = a;
                other[found] = b;
                found++;
            }
        }
    }

    /** A PATH. A merged one keeps its row, for the case that the merging is taken back. */
    private static final class Wanderer {
        int name;
        boolean gone;
        final Row row = new Row();
    }

    /** All PATHS that ever were. */
    private static final class Wanderers {
        final Sky sky;
        final Wanderer[] list = new Wanderer[MOST_PATHS];
        int ever;

        Wanderers(Sky sky) {
            this.sky = sky;
            for (int path = 0; path < MOST_PATHS; path++) {
                list[path] = new Wanderer();
            }
        }

        boolean has(int path) {
            return path >= 0 && path < ever && !list[path].gone;
        }

        int add(int name) {
            if (ever >= MOST_PATHS) {
                return FULL;
            }
            int path = ever;
            list[path].name = name;
            ever++;
            return path;
        }

        int notGone() {
            int there = 0;
            for (int path = 0; path < ever; path++) {
                if (has(path)) {
                    there++;
                }
            }
            return there;
        }

        void replaceRow(int path, Row by) {
            Row row = list[path].row;
            sky.putAll(row, NONE);
            row.become(by);
            sky.putAll(row, path);
        }

        void bringBack(int path) {
            list[path].gone = false;
            sky.putAll(list[path].row, path);
        }
    }

    /** What has to be known of an act to take it back. */
    private static final class Act {
        int path;
        /** Whether the PATH came by the act. */
        boolean born;
        /** The PATH that was merged into it, or NONE. */
        int swallowed;
        final Row before = new Row();
    }

    /** The latest acts, in a ring. */
    private static final class Acts {
        final Act[] ring = new Act[MOST_ACTS];
        private int next;
        int kept;

        Acts() {
            for (int i = 0; i < MOST_ACTS; i++) {
                ring[i] = new Act();
            }
        }

        Act keep(int path, Row before) {
            Act act = ring[next];
            act.path = path;
            act.born = false;
            act.swallowed = NONE;
            act.before.become(before);
            next = (next + 1) % MOST_ACTS;
            kept = Math.min(kept + 1, MOST_ACTS);
            return act;
        }

        /** The latest act, kept no longer; null: there is none. */
        Act takeLatest() {
            if (kept == 0) {
                return null;
            }
            next = (next + MOST_ACTS - 1) % MOST_ACTS;
            kept--;
            return ring[next];
        }

        void forgetAll() {
            kept = 0;
        }
    }

    /** The FITTED line by one axis, in whole numbers: place = start + speed * HOUR. */
    private static final class Line {
        /** More steps than Euclid's way needs for any two longs. */
        static final int MOST_STEPS = 200;

        private long dots;
        private long hours;
        private long places;
        long speedTop;
        long speedBelow;

        /** Lays the line; false: there is none, as all HOURS are one or there is no DOT. */
        boolean through(Sky sky, Row row, int axis) {
            dots = row.length;
            hours = 0;
            places = 0;
            long hoursByHours = 0;
            long hoursByPlaces = 0;
            for (int i = 0; i < row.length; i++) {
                long hour = sky.hour[row.dots[i]];
                long place = sky.placeOf(row.dots[i], axis);
                hours += hour;
                places += place;
                hoursByHours += hour * hour;
                hoursByPlaces += hour * place;
            }
            speedTop = dots * hoursByPlaces - hours * places;
            speedBelow = dots * hoursByHours - hours * hours;
            return speedBelow > 0;
        }

        long placeTop() {
            return places * speedBelow - speedTop * hours;
        }

        long placeBelow() {
            return dots * speedBelow;
        }

        /** How far a place at an HOUR is from the line, times placeBelow(). */
        long missTop(long hour, long place) {
            return Math.abs(place * placeBelow() - placeTop() - speedTop * dots * hour);
        }

        static long reduced(long top, long below, int part) {
            long divisor = commonDivisor(Math.abs(top), Math.abs(below));
            if (divisor == 0) {
                return NO;
            }
            return (part == 0 ? top : below) / divisor;
        }

        private static long commonDivisor(long a, long b) {
            long greater = a;
            long smaller = b;
            for (int step = 0; step < MOST_STEPS && smaller != 0; step++) {
                long rest = greater % smaller;
                greater = smaller;
                smaller = rest;
            }
            return greater;
        }
    }
}
