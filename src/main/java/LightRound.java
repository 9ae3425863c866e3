/** Light led along rows of parts, or round and round; every number is an exact fraction. */
public final class LightRound {
    public static final int NONE = -1, BAD = -2, STATE = -3, FULL = -4;
    public static final long NO = Long.MIN_VALUE;

    private static final int NO_PART = -100;
    private static final int MOST_BENCHES = 4, MOST_PARTS = 8, MOST_PLACES = 12;
    private static final int MOST_BENDING = 3, MOST_TILTS = 2;
    private static final int LONGEST = 20, STRONGEST = 9, STEEPEST = 3, FARTHEST = 1000;
    private static final int STRETCH = 0, LENS = 1, MIRROR = 2, TILT = 3, STOP = 4;
    private static final int HOLDS = 0, EDGE = 1, LEAVES = 2;

    private final Row[] rows;
    private int rowCount;
    private final int[] lengths;
    private int lengthCount;
    // Both are filled anew by each call that needs them, so that calls make no objects.
    private final Table led;
    private final Table ledToo;

    public LightRound() {
        rows = new Row[MOST_BENCHES];
        rowCount = 0;
        lengths = new int[MOST_PLACES];
        lengthCount = 0;
        led = new Table();
        ledToo = new Table();
    }

    // ---- benches and parts

    public int bench() {
        if (rowCount >= MOST_BENCHES) {
            return FULL;
        }
        rows[rowCount] = new Row();
        rowCount++;
        return rowCount - 1;
    }

    public int put(int bench, int i, int kind, int a, int b) {
        Row row = rowAt(bench);
        if (row == null || i < 0 || i > row.size) {
            return NONE;
        }
        if (!isPart(kind, a, b)) {
            return BAD;
        }
        if (row.size >= MOST_PARTS || !row.hasRoomFor(kind)) {
            return FULL;
        }
        row.insert(i, kind, a, b);
        return row.size;
    }

    public int take(int bench, int i) {
        Row row = rowAt(bench);
        if (row == null || !row.has(i)) {
            return NONE;
        }
        int kind = row.kinds[i];
        row.remove(i);
        return kind;
    }

    public int set(int bench, int i, int a, int b) {
        Row row = rowAt(bench);
        if (row == null || !row.has(i)) {
            return NONE;
        }
        if (!isPart(row.kinds[i], a, b)) {
            return BAD;
        }
        row.firsts[i] = a;
        row.seconds[i] = b;
        return 0;
    }

    public int part(int bench, int i, int what) {
        Row row = rowAt(bench);
        if (row == null || !row.has(i)) {
            return NO_PART;
        }
        switch (what) {
            case 0:
                return row.kinds[i];
            case 1:
                return row.firsts[i];
            case 2:
                return row.seconds[i];
            default:
                return NO_PART;
        }
    }

    public int turn(int bench) {
        Row row = rowAt(bench);
        if (row == null) {
            return NONE;
        }
        row.reverse();
        return row.size;
    }

    public int join(int bench, int other) {
        Row row = rowAt(bench);
        Row more = rowAt(other);
        if (row == null || more == null) {
            return NONE;
        }
        if (row.size + more.size > MOST_PARTS
                || row.bending() + more.bending() > MOST_BENDING
                || row.tilts() + more.tilts() > MOST_TILTS) {
            return FULL;
        }
        row.append(more);
        return row.size;
    }

    // ---- tables and rays

    public long table(int bench, int way, int entry, int what) {
        Row row = rowAt(bench);
        if (row == null || !isEither(way) || !isEither(what) || entry < 0 || entry > 5) {
            return NO;
        }
        led.leadThrough(row, way);
        return told(led.above(entry), led.below, what);
    }

    public long ray(int bench, int way, int x, int y, int n, int entry, int what) {
        Row row = rowAt(bench);
        if (row == null || !isEither(way) || !isEither(entry) || !isEither(what)) {
            return NO;
        }
        if (!isNear(x) || !isNear(y) || n < 0 || n > row.size) {
            return NO;
        }
        led.lead(row, way, 0, n);
        long above = entry == 0 ? led.farAbove(x, y) : led.leanAbove(x, y);
        return told(above, led.below, what);
    }

    public int stops(int bench, int way, int x, int y) {
        Row row = rowAt(bench);
        if (row == null || !isEither(way) || !isNear(x) || !isNear(y)) {
            return NONE;
        }
        led.clear();
        for (int i = 0; i < row.size; i++) {
            led.go(row.kinds[i], row.strength(i, way));
            if (row.kinds[i] == STOP
                    && Math.abs(led.farAbove(x, y)) > row.firsts[i] * led.below) {
                return i;
            }
        }
        return NONE;
    }

    public int full(int bench, int way) {
        Row row = rowAt(bench);
        if (row == null || !isEither(way)) {
            return NONE;
        }
        long most = FARTHEST;
        led.clear();
        for (int i = 0; i < row.size; i++) {
            led.go(row.kinds[i], row.strength(i, way));
            if (row.kinds[i] == STOP) {
                most = Math.min(most, led.steepestWithin(row.firsts[i]));
            }
        }
        return (int) most;
    }

    public long image(int bench, int way, int entry, int what) {
        Row row = rowAt(bench);
        if (row == null || !isEither(way) || !isEither(entry) || !isEither(what)) {
            return NO;
        }
        led.leadThrough(row, way);
        // As A D - B C is 1, A + s C with s = -B / D is 1 / D.
        return entry == 0 ? told(-led.b, led.d, what) : told(led.below, led.d, what);
    }

    public int same(int bench, int other, int way) {
        Row row = rowAt(bench);
        Row second = rowAt(other);
        if (row == null || second == null || !isEither(way)) {
            return NONE;
        }
        led.leadThrough(row, way);
        ledToo.leadThrough(second, way);
        for (int entry = 0; entry < 6; entry++) {
            if (led.above(entry) * ledToo.below != ledToo.above(entry) * led.below) {
                return 0;
            }
        }
        return 1;
    }

    // ---- rounds

    public int round(int bench, int way) {
        Row row = rowAt(bench);
        if (row == null || !isEither(way)) {
            return NONE;
        }
        led.leadThrough(row, way);
        return led.manner();
    }

    public long trace(int bench, int way, int what) {
        Row row = rowAt(bench);
        if (row == null || !isEither(way) || !isEither(what)) {
            return NO;
        }
        led.leadThrough(row, way);
        return told(led.sum(), led.below, what);
    }

    public int turns(int bench, int way) {
        Row row = rowAt(bench);
        if (row == null || !isEither(way)) {
            return NONE;
        }
        led.leadThrough(row, way);
        return led.roundsToComeBack();
    }

    public long beam(int bench, int way, int i, int entry, int what) {
        Row row = rowAt(bench);
        if (row == null || !row.has(i) || !isEither(way) || !isEither(entry) || !isEither(what)) {
            return NO;
        }
        led.lead(row, way, i, row.size);
        if (!led.isBetween()) {
            return NO;
        }
        if (entry == 0) {
            long sum = led.sum();
            return told(4 * led.b * led.b, 4 * led.below * led.below - sum * sum, what);
        }
        return told(led.d - led.a, 2 * led.b, what);
    }

    public int waist(int bench, int way) {
        Row row = rowAt(bench);
        if (row == null || !isEither(way)) {
            return NONE;
        }
        led.leadThrough(row, way);
        if (!led.isBetween()) {
            return NONE;
        }
        // T, and what is below the line, are alike for each part: the least WIDE is the least B.
        int best = 0;
        long least = Math.abs(led.b);
        for (int i = 1; i < row.size; i++) {
            led.lead(row, way, i, row.size);
            long wide = Math.abs(led.b);
            if (wide < least) {
                best = i;
                least = wide;
            }
        }
        return best;
    }

    public long axis(int bench, int way, int i, int entry, int what) {
        Row row = rowAt(bench);
        if (row == null || !row.has(i) || !isEither(way) || !isEither(entry) || !isEither(what)) {
            return NO;
        }
        led.lead(row, way, i, row.size);
        // x = A x + B y + E and y = C x + D y + F, solved; 2 - T is what both are divided by.
        long divisor = led.below * (2 * led.below - led.sum());
        long above = entry == 0
                ? (led.below - led.d) * led.e + led.b * led.f
                : led.c * led.e + (led.below - led.a) * led.f;
        return told(above, divisor, what);
    }

    // ---- lengths and the drawer

    public int span(int bench, int i, int j) {
        Row row = rowAt(bench);
        // That j counts from 0 on is told of every part, so NONE comes ahead of STATE there; how far
        // it goes a SPAN alone can tell, which only a STRETCH has.
        if (row == null || !row.has(i) || j < 0) {
            return NONE;
        }
        if (row.kinds[i] != STRETCH) {
            return STATE;
        }
        int found = 0;
        for (int length = 0; length <= LONGEST; length++) {
            if (holdsWith(row, i, length)) {
                if (found == j) {
                    return length;
                }
                found++;
            }
        }
        return NONE;
    }

    public int own(int a) {
        if (!isStrength(a)) {
            return BAD;
        }
        if (lengthCount >= MOST_PLACES) {
            return FULL;
        }
        lengths[lengthCount] = a;
        lengthCount++;
        return lengthCount;
    }

    public int fit(int bench, int i) {
        Row row = rowAt(bench);
        if (row == null || !row.has(i)) {
            return NONE;
        }
        if (row.kinds[i] != LENS) {
            return STATE;
        }
        for (int place = 0; place < lengthCount; place++) {
            if (holdsWith(row, i, lengths[place])) {
                return place;
            }
        }
        return NONE;
    }

    public int swap(int bench, int i, int place) {
        Row row = rowAt(bench);
        if (row == null || !row.has(i) || !isPlace(place)) {
            return NONE;
        }
        if (row.kinds[i] != LENS) {
            return STATE;
        }
        int before = row.firsts[i];
        row.firsts[i] = lengths[place];
        lengths[place] = before;
        return before;
    }

    public int count(int what) {
        switch (what) {
            case 0:
                return rowCount;
            case 1:
                return partsOfAll();
            case 2:
                return lengthCount;
            case 3:
                return holdingRows();
            default:
                return NONE;
        }
    }

    public int drawer(int place) {
        return isPlace(place) ? lengths[place] : 0;
    }

    // ---- what the calls share

    private Row rowAt(int bench) {
        return bench >= 0 && bench < rowCount ? rows[bench] : null;
    }

    private boolean isPlace(int place) {
        return place >= 0 && place < lengthCount;
    }

    private int partsOfAll() {
        int parts = 0;
        for (Row row : rows) {
            if (row != null) {
                parts += row.size;
            }
        }
        return parts;
    }

    private int holdingRows() {
        int holding = 0;
        for (Row row : rows) {
            if (row != null && holdsBothWays(row)) {
                holding++;
            }
        }
        return holding;
    }

    private boolean holdsBothWays(Row row) {
        led.leadThrough(row, 0);
        ledToo.leadThrough(row, 1);
        return led.manner() == HOLDS && ledToo.manner() == HOLDS;
    }

    /** Tries another a for part i, and puts the old one back. */
    private boolean holdsWith(Row row, int i, int a) {
        int before = row.firsts[i];
        row.firsts[i] = a;
        boolean holds = holdsBothWays(row);
        row.firsts[i] = before;
        return holds;
    }

    /** Ways, what is asked of a fraction, and entries that are two are all 0 or 1. */
    private static boolean isEither(int number) {
        return number == 0 || number == 1;
    }

    private static boolean isNear(int number) {
        return number >= -FARTHEST && number <= FARTHEST;
    }

    private static boolean isStrength(int a) {
        return a >= -STRONGEST && a <= STRONGEST && a != 0;
    }

    private static boolean isPart(int kind, int a, int b) {
        if (kind == MIRROR) {
            return isStrength(a) && isStrength(b);
        }
        if (b != 0) {
            return false;
        }
        switch (kind) {
            case STRETCH:
                return a >= 0 && a <= LONGEST;
            case LENS:
                return isStrength(a);
            case TILT:
                return a >= -STEEPEST && a <= STEEPEST;
            case STOP:
                return a >= 1 && a <= FARTHEST;
            default:
                return false;
        }
    }

    /** What is above (0) or below (1) the line of a fraction in its least terms; NO over 0. */
    private static long told(long above, long below, int what) {
        long divisor = commonDivisor(Math.abs(above), Math.abs(below));
        if (below == 0 || divisor == 0) {
            return NO;
        }
        long least = (what == 0 ? above : below) / divisor;
        return below < 0 ? -least : least;
    }

    private static long commonDivisor(long one, long other) {
        long large = one;
        long small = other;
        // Numbers of 63 bits take under 100 steps.
        for (int step = 0; step < 100 && small != 0; step++) {
            long rest = large % small;
            large = small;
            small = rest;
        }
        return large;
    }

    /** The parts of a bench. */
    private static final class Row {
        final int[] kinds;
        final int[] firsts;
        final int[] seconds;
        int size;

        Row() {
            kinds = new int[MOST_PARTS];
            firsts = new int[MOST_PARTS];
            seconds = new int[MOST_PARTS];
            size = 0;
        }

        boolean has(int i) {
            return i >= 0 && i < size;
        }

        /** The one number that a way sees of a part. */
        int strength(int i, int way) {
            return kinds[i] == MIRROR && way == 1 ? seconds[i] : firsts[i];
        }

        int bending() {
            int bending = 0;
            for (int k = 0; k < size; k++) {
                if (kinds[k] == LENS || kinds[k] == MIRROR) {
                    bending++;
                }
            }
            return bending;
        }

        int tilts() {
            int tilts = 0;
            for (int k = 0; k < size; k++) {
                if (kinds[k] == TILT) {
                    tilts++;
                }
            }
            return tilts;
        }

        boolean hasRoomFor(int kind) {
            if (kind == LENS || kind == MIRROR) {
                return bending() < MOST_BENDING;
            }
            return kind != TILT || tilts() < MOST_TILTS;
        }

        void write(int i, int kind, int a, int b) {
            kinds[i] = kind;
            firsts[i] = a;
            seconds[i] = b;
        }

        void insert(int i, int kind, int a, int b) {
            for (int k = size; k > i; k--) {
                write(k, kinds[k - 1], firsts[k - 1], seconds[k - 1]);
            }
            write(i, kind, a, b);
            size++;
        }

        void remove(int i) {
            for (int k = i; k < size - 1; k++) {
                write(k, kinds[k + 1], firsts[k + 1], seconds[k + 1]);
            }
            size--;
        }

        void reverse() {
            for (int low = 0, high = size - 1; low < high; low++, high--) {
                int kind = kinds[low];
                int a = firsts[low];
                int b = seconds[low];
                write(low, kinds[high], firsts[high], seconds[high]);
                write(high, kind, a, b);
            }
        }

        void append(Row more) {
            // The row may be appended to itself: how many come is settled first.
            int coming = more.size;
            for (int k = 0; k < coming; k++) {
                write(size, more.kinds[k], more.firsts[k], more.seconds[k]);
                size++;
            }
        }
    }

    /**
     * What a row makes of a ray: six whole numbers above one common line, and what is below it.
     *
     * <p>A long is wide enough for all that is made of them: the gaps between at most 3 bending
     * parts are 4, of 100 in all, and a bending part makes a number at most tenfold, so the first
     * four stay under 26 * 26 * 26 * 26 * 1000 (below 2^29), the last two under six times that,
     * and products of two of them, fourfold, under 2^63. Below the line is 729 at most.
     */
    private static final class Table {
        long a, b, c, d, e, f;
        long below;

        void clear() {
            a = 1;
            b = 0;
            c = 0;
            d = 1;
            e = 0;
            f = 0;
            below = 1;
        }

        /** The n parts from part i on, part 0 coming behind the last one. */
        void lead(Row row, int way, int i, int n) {
            clear();
            int at = i;
            for (int k = 0; k < n; k++) {
                if (row.has(at)) {
                    go(row.kinds[at], row.strength(at, way));
                }
                at = at + 1 < row.size ? at + 1 : 0;
            }
        }

        void leadThrough(Row row, int way) {
            lead(row, way, 0, row.size);
        }

        void go(int kind, int strength) {
            switch (kind) {
                case STRETCH:
                    stretchBy(strength);
                    break;
                case LENS:
                case MIRROR:
                    bendBy(strength);
                    break;
                case TILT:
                    f += strength * below;
                    break;
                default:
                    break;
            }
        }

        private void stretchBy(long length) {
            a += length * c;
            b += length * d;
            e += length * f;
        }

        private void bendBy(long strength) {
            // The common line takes the strength in without its sign, so that below stays above 0.
            long sign = strength < 0 ? -1 : 1;
            long size = sign * strength;
            c = size * c - sign * a;
            d = size * d - sign * b;
            f = size * f - sign * e;
            a *= size;
            b *= size;
            e *= size;
            below *= size;
        }

        long above(int entry) {
            switch (entry) {
                case 0:
                    return a;
                case 1:
                    return b;
                case 2:
                    return c;
                case 3:
                    return d;
                case 4:
                    return e;
                default:
                    return f;
            }
        }

        long farAbove(long x, long y) {
            return a * x + b * y + e;
        }

        long leanAbove(long x, long y) {
            return c * x + d * y + f;
        }

        /** The greatest y to which all rays (0, 0), (0, 1), .. are within a stop; NONE: not one. */
        long steepestWithin(long stop) {
            long room = stop * below;
            if (Math.abs(e) > room) {
                return NONE;
            }
            if (b == 0) {
                return FARTHEST;
            }
            return b > 0 ? (room - e) / b : (room + e) / -b;
        }

        long sum() {
            return a + d;
        }

        boolean isBetween() {
            return sum() > -2 * below && sum() < 2 * below;
        }

        boolean isPlain(long diagonal) {
            return a == diagonal && d == diagonal && b == 0 && c == 0;
        }

        int manner() {
            if (isBetween() || isPlain(below) || isPlain(-below)) {
                return HOLDS;
            }
            return sum() == 2 * below || sum() == -2 * below ? EDGE : LEAVES;
        }

        /**
         * A table that comes back after n rounds has a T that is twice a cosine of a fraction of
         * the whole turn; of these only -2, -1, 0, 1, 2 are fractions, and each tells its n.
         */
        int roundsToComeBack() {
            if (isPlain(below)) {
                return 1;
            }
            if (isPlain(-below)) {
                return 2;
            }
            if (sum() == -below) {
                return 3;
            }
            if (sum() == 0) {
                return 4;
            }
            return sum() == below ? 6 : 0;
        }
    }
}
