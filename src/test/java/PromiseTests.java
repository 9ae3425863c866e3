/** For each promise ordinary calls, the edges that the document names, and wrong calls. */
public final class PromiseTests {
    private static final long NO = LightRound.NO;
    private static final int NONE = -1, BAD = -2, STATE = -3, FULL = -4;
    private static final int STRETCH = 0, LENS = 1, MIRROR = 2, TILT = 3, STOP = 4;

    private static int wrong = 0;
    private static int promise = 0;
    private static int step = 0;

    private static void begin(int number) {
        promise = number;
        step = 0;
    }

    private static void due(long want, long got) {
        step++;
        if (got != want) {
            wrong++;
            int line = new Throwable().getStackTrace()[1].getLineNumber();
            System.out.println("promise " + promise + ", step " + step + " (line " + line
                    + "): answered " + got + ", due is " + want);
        }
    }

    /** A new object with one bench of the parts given as kind, a, b in turn. */
    private static LightRound with(int... parts) {
        LightRound light = new LightRound();
        add(light, parts);
        return light;
    }

    private static void add(LightRound light, int... parts) {
        int bench = light.bench();
        for (int k = 0; k < parts.length; k += 3) {
            due(k / 3 + 1, light.put(bench, k / 3, parts[k], parts[k + 1], parts[k + 2]));
        }
    }

    private static void dueRow(LightRound light, int bench, int... parts) {
        for (int k = 0; k < parts.length; k++) {
            due(parts[k], light.part(bench, k / 3, k % 3));
        }
        due(-100, light.part(bench, parts.length / 3, 0));
    }

    private static void newObject() {
        begin(1);
        LightRound light = new LightRound();
        due(0, light.count(0));
        due(0, light.count(1));
        due(0, light.count(2));
        due(0, light.count(3));
        due(0, light.drawer(0));
        due(Long.MIN_VALUE, LightRound.NO);
        LightRound other = new LightRound();
        light.bench();
        light.own(3);
        due(0, other.count(0));
        due(0, other.count(2));
    }

    private static void bench() {
        begin(2);
        LightRound light = new LightRound();
        due(0, light.bench());
        due(1, light.bench());
        due(2, light.bench());
        due(3, light.bench());
        due(FULL, light.bench());
        due(4, light.count(0));
        due(0, light.count(1));
        due(1, light.put(3, 0, STRETCH, 1, 0));
        due(NONE, light.put(4, 0, STRETCH, 1, 0));
        due(NONE, light.put(-1, 0, STRETCH, 1, 0));
    }

    private static void put() {
        begin(3);
        LightRound light = with(STRETCH, 1, 0, STRETCH, 3, 0);
        due(3, light.put(0, 1, MIRROR, 2, -4));
        due(4, light.put(0, 0, STOP, 7, 0));
        due(5, light.put(0, 4, TILT, -3, 0));
        dueRow(light, 0, STOP, 7, 0, STRETCH, 1, 0, MIRROR, 2, -4, STRETCH, 3, 0, TILT, -3, 0);
        due(NONE, light.put(0, 6, STRETCH, 1, 0));
        due(NONE, light.put(0, -1, STRETCH, 1, 0));
        due(NONE, light.put(1, 0, STRETCH, 1, 0));
        due(NONE, light.put(0, 6, 9, 1, 0));
        due(NONE, light.put(Integer.MIN_VALUE, Integer.MAX_VALUE, 0, 0, 0));
        dueRow(light, 0, STOP, 7, 0, STRETCH, 1, 0, MIRROR, 2, -4, STRETCH, 3, 0, TILT, -3, 0);
        ranges();
        badParts();
        tooMany();
    }

    private static void ranges() {
        int[] good = {STRETCH, 0, 0, STRETCH, 20, 0, LENS, -9, 0, LENS, 9, 0, LENS, 1, 0,
            LENS, -1, 0, MIRROR, -9, 9, MIRROR, 9, -9, MIRROR, 1, -1, TILT, -3, 0, TILT, 3, 0,
            TILT, 0, 0, STOP, 1, 0, STOP, 1000, 0};
        for (int k = 0; k < good.length; k += 3) {
            LightRound light = with(good[k], good[k + 1], good[k + 2]);
            dueRow(light, 0, good[k], good[k + 1], good[k + 2]);
        }
    }

    private static void badParts() {
        int[] bad = {-1, 1, 0, 5, 1, 0, Integer.MAX_VALUE, 1, 0, STRETCH, -1, 0, STRETCH, 21, 0,
            STRETCH, 1, 1, LENS, 0, 0, LENS, 10, 0, LENS, -10, 0, LENS, 3, 3, MIRROR, 0, 1,
            MIRROR, 1, 0, MIRROR, 10, 1, MIRROR, 1, 10, MIRROR, -10, 1, MIRROR, 1, -10,
            TILT, 4, 0, TILT, -4, 0, TILT, 1, -1, STOP, 0, 0, STOP, -1, 0, STOP, 1001, 0,
            STOP, 5, 5};
        LightRound light = with(STRETCH, 2, 0);
        for (int k = 0; k < bad.length; k += 3) {
            due(BAD, light.put(0, 0, bad[k], bad[k + 1], bad[k + 2]));
        }
        dueRow(light, 0, STRETCH, 2, 0);
    }

    private static void tooMany() {
        LightRound light = with(LENS, 1, 0, MIRROR, 2, 3, LENS, 4, 0, TILT, 1, 0, TILT, 2, 0);
        due(FULL, light.put(0, 0, LENS, 1, 0));
        due(FULL, light.put(0, 0, MIRROR, 1, 1));
        due(FULL, light.put(0, 5, TILT, 1, 0));
        due(BAD, light.put(0, 5, TILT, 4, 0));
        due(6, light.put(0, 5, STOP, 1, 0));
        due(7, light.put(0, 6, STOP, 1, 0));
        due(8, light.put(0, 7, STRETCH, 1, 0));
        due(FULL, light.put(0, 8, STRETCH, 1, 0));
        due(FULL, light.put(0, 0, STOP, 1, 0));
        due(BAD, light.put(0, 0, STOP, 0, 0));
        due(NONE, light.put(0, 9, STOP, 1, 0));
        due(8, light.count(1));
        LightRound stretches = new LightRound();
        stretches.bench();
        for (int k = 1; k <= 8; k++) {
            due(k, stretches.put(0, 0, STRETCH, k, 0));
        }
        due(FULL, stretches.put(0, 0, STRETCH, 1, 0));
    }

    private static void take() {
        begin(4);
        LightRound light = with(STOP, 7, 0, LENS, 1, 0, MIRROR, 2, -4, STRETCH, 3, 0, TILT, 1, 0);
        due(NONE, light.take(0, 5));
        due(NONE, light.take(0, -1));
        due(NONE, light.take(1, 0));
        due(NONE, light.take(-1, 0));
        due(MIRROR, light.take(0, 2));
        dueRow(light, 0, STOP, 7, 0, LENS, 1, 0, STRETCH, 3, 0, TILT, 1, 0);
        due(TILT, light.take(0, 3));
        due(STOP, light.take(0, 0));
        dueRow(light, 0, LENS, 1, 0, STRETCH, 3, 0);
        due(LENS, light.take(0, 0));
        due(STRETCH, light.take(0, 0));
        due(NONE, light.take(0, 0));
        LightRound full = with(LENS, 1, 0, LENS, 2, 0, LENS, 3, 0);
        due(FULL, full.put(0, 0, LENS, 4, 0));
        due(LENS, full.take(0, 1));
        due(3, full.put(0, 0, LENS, 4, 0));
        due(LENS, full.take(0, 2));
        due(3, full.put(0, 2, LENS, 5, 0));
        LightRound eight = with(STRETCH, 1, 0, STRETCH, 2, 0, STRETCH, 3, 0, STRETCH, 4, 0,
                STRETCH, 5, 0, STRETCH, 6, 0, TILT, 1, 0, TILT, 2, 0);
        due(TILT, eight.take(0, 7));
        due(8, eight.put(0, 7, TILT, 3, 0));
        due(STRETCH, eight.take(0, 0));
        dueRow(eight, 0, STRETCH, 2, 0, STRETCH, 3, 0, STRETCH, 4, 0, STRETCH, 5, 0,
                STRETCH, 6, 0, TILT, 1, 0, TILT, 3, 0);
    }

    private static void set() {
        begin(5);
        LightRound light = with(STRETCH, 1, 0, LENS, 1, 0, MIRROR, 1, 1, TILT, 1, 0, STOP, 1, 0);
        due(0, light.set(0, 0, 20, 0));
        due(0, light.set(0, 1, -9, 0));
        due(0, light.set(0, 2, 9, -9));
        due(0, light.set(0, 3, -3, 0));
        due(0, light.set(0, 4, 1000, 0));
        due(0, light.set(0, 4, 1000, 0));
        due(BAD, light.set(0, 0, 21, 0));
        due(BAD, light.set(0, 0, 2, 1));
        due(BAD, light.set(0, 1, 0, 0));
        due(BAD, light.set(0, 1, 2, 2));
        due(BAD, light.set(0, 2, 2, 0));
        due(BAD, light.set(0, 2, 0, 2));
        due(BAD, light.set(0, 3, 4, 0));
        due(BAD, light.set(0, 4, 0, 0));
        due(NONE, light.set(0, 5, 1, 0));
        due(NONE, light.set(0, -1, 1, 0));
        due(NONE, light.set(0, 5, 99, 99));
        due(NONE, light.set(1, 0, 1, 0));
        dueRow(light, 0, STRETCH, 20, 0, LENS, -9, 0, MIRROR, 9, -9, TILT, -3, 0, STOP, 1000, 0);
    }

    private static void part() {
        begin(6);
        LightRound light = with(LENS, -5, 0, MIRROR, 3, -7);
        due(MIRROR, light.part(0, 1, 0));
        due(3, light.part(0, 1, 1));
        due(-7, light.part(0, 1, 2));
        due(0, light.part(0, 0, 2));
        due(-100, light.part(0, 1, 3));
        due(-100, light.part(0, 1, -1));
        due(-100, light.part(0, 2, 0));
        due(-100, light.part(0, -1, 0));
        due(-100, light.part(1, 0, 0));
        due(-100, light.part(-1, 0, 0));
    }

    private static void turn() {
        begin(7);
        LightRound light = with(LENS, -5, 0, MIRROR, 3, -7, STRETCH, 4, 0, STOP, 8, 0);
        due(4, light.turn(0));
        dueRow(light, 0, STOP, 8, 0, STRETCH, 4, 0, MIRROR, 3, -7, LENS, -5, 0);
        due(STRETCH, light.take(0, 1));
        due(3, light.turn(0));
        dueRow(light, 0, LENS, -5, 0, MIRROR, 3, -7, STOP, 8, 0);
        due(1, light.bench());
        due(0, light.turn(1));
        due(NONE, light.turn(2));
        due(NONE, light.turn(-1));
    }

    private static void join() {
        begin(8);
        LightRound light = with(LENS, 1, 0, STRETCH, 2, 0);
        add(light, MIRROR, 3, 4, TILT, 1, 0);
        due(4, light.join(0, 1));
        dueRow(light, 0, LENS, 1, 0, STRETCH, 2, 0, MIRROR, 3, 4, TILT, 1, 0);
        dueRow(light, 1, MIRROR, 3, 4, TILT, 1, 0);
        due(4, light.join(1, 1));
        dueRow(light, 1, MIRROR, 3, 4, TILT, 1, 0, MIRROR, 3, 4, TILT, 1, 0);
        due(FULL, light.join(0, 1));
        due(FULL, light.join(0, 0));
        due(NONE, light.join(0, 2));
        due(NONE, light.join(2, 0));
        due(NONE, light.join(-1, 0));
        due(NONE, light.join(0, -1));
        dueRow(light, 0, LENS, 1, 0, STRETCH, 2, 0, MIRROR, 3, 4, TILT, 1, 0);
        due(2, light.bench());
        due(4, light.join(0, 2));
        due(4, light.join(2, 0));
        joinLimits();
    }

    private static void joinLimits() {
        LightRound light = with(STRETCH, 1, 0, STRETCH, 2, 0, STRETCH, 3, 0, STRETCH, 4, 0);
        add(light, STRETCH, 5, 0);
        due(8, light.join(0, 0));
        due(FULL, light.join(0, 1));
        due(FULL, light.join(1, 0));
        due(2, light.join(1, 1));
        LightRound tilts = with(TILT, 1, 0, TILT, 1, 0);
        add(tilts, TILT, 1, 0);
        due(FULL, tilts.join(0, 1));
        due(FULL, tilts.join(1, 0));
        due(2, tilts.join(1, 1));
        LightRound bends = with(LENS, 1, 0, MIRROR, 1, 1);
        add(bends, LENS, 1, 0);
        add(bends, MIRROR, 1, 1);
        due(3, bends.join(1, 0));
        due(FULL, bends.join(1, 2));
        due(FULL, bends.join(0, 0));
        due(3, bends.join(0, 2));
    }

    private static void dueTable(LightRound light, int way, long... fractions) {
        for (int k = 0; k < fractions.length; k++) {
            due(fractions[k], light.table(0, way, k / 2, k % 2));
        }
    }

    private static void table() {
        begin(9);
        dueTable(with(), 0, 1, 1, 0, 1, 0, 1, 1, 1, 0, 1, 0, 1);
        dueTable(with(STRETCH, 7, 0), 1, 1, 1, 7, 1, 0, 1, 1, 1, 0, 1, 0, 1);
        dueTable(with(LENS, -4, 0), 1, 1, 1, 0, 1, 1, 4, 1, 1, 0, 1, 0, 1);
        LightRound mirror = with(MIRROR, 4, -6);
        dueTable(mirror, 0, 1, 1, 0, 1, -1, 4, 1, 1, 0, 1, 0, 1);
        dueTable(mirror, 1, 1, 1, 0, 1, 1, 6, 1, 1, 0, 1, 0, 1);
        dueTable(with(STOP, 4, 0), 0, 1, 1, 0, 1, 0, 1, 1, 1, 0, 1, 0, 1);
        dueTable(with(TILT, -2, 0), 0, 1, 1, 0, 1, 0, 1, 1, 1, 0, 1, -2, 1);
        // (x, y) (x, y + 3) (x + 2 y + 6, y + 3) (.., y + 3 - x/6 - y/3 - 1)
        dueTable(with(TILT, 3, 0, STRETCH, 2, 0, LENS, 6, 0), 0,
                1, 1, 2, 1, -1, 6, 2, 3, 6, 1, 2, 1);
        due(NO, mirror.table(0, 0, 6, 0));
        due(NO, mirror.table(0, 0, -1, 0));
        due(NO, mirror.table(0, 0, 0, 2));
        due(NO, mirror.table(0, 0, 0, -1));
        due(NO, mirror.table(0, 2, 0, 0));
        due(NO, mirror.table(0, -1, 0, 0));
        due(NO, mirror.table(1, 0, 0, 0));
        due(NO, mirror.table(-1, 0, 0, 0));
    }

    private static void ray() {
        begin(10);
        LightRound light = with(STOP, 1, 0, STRETCH, 4, 0, MIRROR, 6, -3, TILT, 2, 0);
        due(10, light.ray(0, 0, 10, -7, 0, 0, 0));
        due(1, light.ray(0, 0, 10, -7, 0, 0, 1));
        due(-7, light.ray(0, 0, 10, -7, 0, 1, 0));
        due(10, light.ray(0, 0, 10, -7, 1, 0, 0));
        due(-18, light.ray(0, 0, 10, -7, 2, 0, 0));
        due(-4, light.ray(0, 0, 10, -7, 3, 1, 0));
        due(-13, light.ray(0, 1, 10, -7, 3, 1, 0));
        due(-2, light.ray(0, 0, 10, -7, 4, 1, 0));
        due(-16, light.ray(0, 0, 12, -7, 4, 0, 0));
        due(-7, light.ray(0, 0, 12, -7, 4, 1, 0));
        due(3, light.ray(0, 0, 12, -7, 4, 1, 1));
        due(1000, light.ray(0, 0, 1000, 1000, 0, 0, 0));
        due(-1000, light.ray(0, 0, -1000, -1000, 0, 1, 0));
        due(5000, light.ray(0, 0, 1000, 1000, 4, 0, 0));
        LightRound tilted = with(TILT, 2, 0, STRETCH, 5, 0, LENS, -4, 0);
        due(1 + 5 * (3 + 2), tilted.ray(0, 0, 1, 3, 2, 0, 0));
        due(23, tilted.ray(0, 0, 1, 3, 3, 1, 0));
        due(2, tilted.ray(0, 0, 1, 3, 3, 1, 1));
        due(NO, light.ray(0, 0, 1001, 0, 0, 0, 0));
        due(NO, light.ray(0, 0, -1001, 0, 0, 0, 0));
        due(NO, light.ray(0, 0, 0, 1001, 0, 0, 0));
        due(NO, light.ray(0, 0, 0, -1001, 0, 0, 0));
        due(NO, light.ray(0, 0, 0, 0, 5, 0, 0));
        due(NO, light.ray(0, 0, 0, 0, -1, 0, 0));
        due(NO, light.ray(0, 0, 0, 0, 0, 2, 0));
        due(NO, light.ray(0, 0, 0, 0, 0, -1, 0));
        due(NO, light.ray(0, 0, 0, 0, 0, 0, 2));
        due(NO, light.ray(0, 0, 0, 0, 0, 0, -1));
        due(NO, light.ray(0, 2, 0, 0, 0, 0, 0));
        due(NO, light.ray(0, -1, 0, 0, 0, 0, 0));
        due(NO, light.ray(1, 0, 0, 0, 0, 0, 0));
        due(NO, light.ray(0, 0, Integer.MIN_VALUE, 0, 0, 0, 0));
    }

    private static void stops() {
        begin(11);
        LightRound light = with(STOP, 10, 0, STRETCH, 2, 0, STOP, 8, 0, MIRROR, 2, -2,
                STRETCH, 3, 0, STOP, 12, 0);
        due(NONE, light.stops(0, 0, 0, 0));
        due(NONE, light.stops(0, 0, 10, -1));
        due(0, light.stops(0, 0, 11, -2));
        due(0, light.stops(0, 0, -11, 2));
        due(2, light.stops(0, 0, 10, 0));
        due(2, light.stops(0, 0, -10, 0));
        due(NONE, light.stops(0, 0, -8, 0));
        due(5, light.stops(0, 1, -8, 0));
        due(5, light.stops(0, 1, 8, 0));
        due(0, light.stops(0, 0, 1000, 1000));
        due(NONE, light.stops(0, 0, 1001, 0));
        due(NONE, light.stops(0, 0, -1001, 0));
        due(NONE, light.stops(0, 0, 0, 1001));
        due(NONE, light.stops(0, 0, 0, -1001));
        due(NONE, light.stops(0, 2, 1000, 0));
        due(NONE, light.stops(0, -1, 1000, 0));
        due(NONE, light.stops(1, 0, 1000, 0));
        due(NONE, with(STRETCH, 20, 0).stops(0, 0, 1000, 1000));
        LightRound tilted = with(TILT, 2, 0, STRETCH, 5, 0, STOP, 10, 0);
        due(NONE, tilted.stops(0, 0, 0, 0));
        due(NONE, tilted.stops(0, 0, 0, -4));
        due(2, tilted.stops(0, 0, 1, 0));
        due(NONE, tilted.stops(0, 0, -1, 0));
        due(STOP, tilted.take(0, 2));
        due(NONE, tilted.stops(0, 0, 1, 0));
        // a ray a fraction beyond the stop: 2 + 1/3 against 2
        due(2, with(LENS, -3, 0, STRETCH, 1, 0, STOP, 2, 0).stops(0, 0, 1, 1));
        due(NONE, with(LENS, -3, 0, STRETCH, 3, 0, STOP, 2, 0).stops(0, 0, 1, 0));
    }

    private static void full() {
        begin(12);
        due(1000, with().full(0, 0));
        due(1000, with(STOP, 1, 0).full(0, 0));
        due(1000, with(STRETCH, 20, 0).full(0, 1));
        due(1000, with(STRETCH, 1, 0, STOP, 1000, 0).full(0, 0));
        due(999, with(STRETCH, 1, 0, STOP, 999, 0).full(0, 0));
        due(2, with(STRETCH, 4, 0, STOP, 11, 0).full(0, 0));
        due(3, with(STRETCH, 4, 0, STOP, 12, 0).full(0, 0));
        due(2, with(STRETCH, 4, 0, STOP, 12, 0, STRETCH, 1, 0, STOP, 14, 0).full(0, 0));
        due(0, with(STRETCH, 4, 0, STOP, 3, 0).full(0, 0));
        // the tilt alone goes beyond the stop, though y = -3 would not
        LightRound tilted = with(TILT, 3, 0, STRETCH, 4, 0, STOP, 11, 0);
        due(NONE, tilted.full(0, 0));
        due(0, tilted.set(0, 0, -3, 0));
        due(NONE, tilted.full(0, 0));
        due(0, tilted.set(0, 2, 12, 0));
        due(6, tilted.full(0, 0));
        // 4 y + 4 (y - 4 y / f): falls with y for f = 1, rises for -1
        LightRound bent = with(STRETCH, 4, 0, MIRROR, 1, -1, STRETCH, 4, 0, STOP, 50, 0);
        due(6, bent.full(0, 0));
        due(2, bent.full(0, 1));
        // tilted ahead of the stretch behind: 4 y + 4 (y - 4 y / f + 2)
        due(5, bent.put(0, 2, TILT, 2, 0));
        due(7, bent.full(0, 0));
        due(1, bent.full(0, 1));
        due(0, bent.set(0, 2, -3, 0));
        due(4, bent.full(0, 0));
        due(2, bent.full(0, 1));
        due(STOP, bent.take(0, 4));
        due(1000, bent.full(0, 0));
        due(NONE, bent.full(0, 2));
        due(NONE, bent.full(0, -1));
        due(NONE, bent.full(1, 0));
        due(NONE, bent.full(-1, 0));
    }

    private static void image() {
        begin(13);
        LightRound light = with(STRETCH, 6, 0, LENS, 4, 0);
        due(12, light.image(0, 0, 0, 0));
        due(1, light.image(0, 0, 0, 1));
        due(-2, light.image(0, 0, 1, 0));
        due(1, light.image(0, 0, 1, 1));
        LightRound seen = with(STRETCH, 3, 0, MIRROR, 5, -5);
        due(-15, seen.image(0, 0, 0, 0));
        due(2, seen.image(0, 0, 0, 1));
        due(5, seen.image(0, 0, 1, 0));
        due(2, seen.image(0, 0, 1, 1));
        due(-15, seen.image(0, 1, 0, 0));
        due(8, seen.image(0, 1, 0, 1));
        due(5, seen.image(0, 1, 1, 0));
        due(8, seen.image(0, 1, 1, 1));
        LightRound far = with(STRETCH, 4, 0, LENS, 4, 0);
        due(NO, far.image(0, 0, 0, 0));
        due(NO, far.image(0, 0, 1, 1));
        due(0, with().image(0, 1, 0, 0));
        due(1, with().image(0, 1, 0, 1));
        due(1, with().image(0, 1, 1, 0));
        due(NO, light.image(0, 0, 2, 0));
        due(NO, light.image(0, 0, -1, 0));
        due(NO, light.image(0, 0, 0, 2));
        due(NO, light.image(0, 0, 0, -1));
        due(NO, light.image(0, 2, 0, 0));
        due(NO, light.image(0, -1, 0, 0));
        due(NO, light.image(1, 0, 0, 0));
    }

    private static void same() {
        begin(14);
        LightRound light = with(STRETCH, 2, 0, STRETCH, 3, 0, MIRROR, 4, 5);
        add(light, STRETCH, 5, 0, LENS, 4, 0, STOP, 3, 0);
        due(1, light.same(0, 1, 0));
        due(1, light.same(1, 0, 0));
        due(0, light.same(0, 1, 1));
        due(1, light.same(0, 0, 1));
        due(4, light.put(1, 3, TILT, 1, 0));
        due(0, light.same(0, 1, 0));
        due(0, light.set(1, 3, 0, 0));
        due(1, light.same(0, 1, 0));
        due(NONE, light.same(0, 2, 0));
        due(NONE, light.same(2, 0, 0));
        due(NONE, light.same(-1, 0, 0));
        due(NONE, light.same(0, -1, 0));
        due(NONE, light.same(0, 0, 2));
        due(NONE, light.same(0, 0, -1));
        // lenses of 2 and -2, or of 3 and -3, are as none
        LightRound plain = with(LENS, 2, 0, LENS, -2, 0);
        add(plain, LENS, 3, 0, LENS, -3, 0);
        add(plain);
        due(1, plain.same(0, 1, 0));
        due(1, plain.same(0, 2, 1));
        // A alone differs: (3/4, 4, -1/4, 0) and (1/2, 4, -1/4, 0)
        LightRound alone = with(STRETCH, 4, 0, LENS, 4, 0, STRETCH, 1, 0);
        add(alone, STRETCH, 4, 0, LENS, 4, 0, STRETCH, 2, 0);
        due(0, alone.same(0, 1, 0));
        // lenses of 6 and 3 are one of 2
        LightRound two = with(LENS, 6, 0, LENS, 3, 0);
        add(two, LENS, 2, 0);
        due(1, two.same(0, 1, 0));
    }

    private static void round() {
        begin(15);
        due(0, with().round(0, 0));
        due(1, with(STRETCH, 1, 0).round(0, 0));
        due(0, with(STRETCH, 0, 0, TILT, 3, 0).round(0, 1));
        due(1, with(LENS, 5, 0).round(0, 0));
        LightRound mirror = with(STRETCH, 8, 0, MIRROR, 2, -2);
        due(1, mirror.round(0, 0));
        due(2, mirror.round(0, 1));
        due(0, mirror.set(0, 0, 7, 0));
        due(0, mirror.round(0, 0));
        due(0, mirror.set(0, 0, 9, 0));
        due(2, mirror.round(0, 0));
        // T is 2 with B not 0, -2 with B 0 and C not, and -2 with (-1, 0, 0, -1)
        due(1, with(LENS, 2, 0, STRETCH, 8, 0, LENS, 2, 0, STRETCH, 8, 0).round(0, 0));
        due(1, with(STRETCH, 2, 0, LENS, 1, 0, STRETCH, 2, 0).round(0, 0));
        due(0, with(STRETCH, 2, 0, LENS, 1, 0, STRETCH, 2, 0, LENS, 1, 0).round(0, 0));
        due(NONE, mirror.round(0, 2));
        due(NONE, mirror.round(0, -1));
        due(NONE, mirror.round(1, 0));
        due(NONE, mirror.round(-1, 0));
    }

    private static void trace() {
        begin(16);
        LightRound light = with(STRETCH, 5, 0, MIRROR, 3, -3, TILT, 1, 0);
        due(1, light.trace(0, 0, 0));
        due(3, light.trace(0, 0, 1));
        due(11, light.trace(0, 1, 0));
        due(3, light.trace(0, 1, 1));
        due(2, with().trace(0, 0, 0));
        due(0, with(STRETCH, 4, 0, LENS, 2, 0).trace(0, 0, 0));
        due(1, with(STRETCH, 4, 0, LENS, 2, 0).trace(0, 0, 1));
        due(NO, light.trace(0, 0, 2));
        due(NO, light.trace(0, 0, -1));
        due(NO, light.trace(0, 2, 0));
        due(NO, light.trace(0, -1, 0));
        due(NO, light.trace(1, 0, 0));
        due(NO, light.trace(-1, 0, 0));
    }

    private static void turns() {
        begin(17);
        due(1, with().turns(0, 1));
        due(1, with(TILT, 1, 0, STOP, 1, 0).turns(0, 0));
        due(0, with(STRETCH, 3, 0).turns(0, 0));
        LightRound light = with(STRETCH, 1, 0, MIRROR, 1, -1);
        due(6, light.turns(0, 0));
        due(0, light.turns(0, 1));
        due(0, light.set(0, 0, 2, 0));
        due(4, light.turns(0, 0));
        due(0, light.set(0, 0, 3, 0));
        due(3, light.turns(0, 0));
        due(0, light.set(0, 0, 4, 0));
        due(0, light.turns(0, 0));
        due(0, light.set(0, 0, 5, 0));
        due(0, light.turns(0, 0));
        // T is 1 / 2: it holds, and never comes back
        due(0, with(STRETCH, 3, 0, LENS, 2, 0).turns(0, 0));
        // two lenses twice their length apart, as far round: once over, (-1, 0, 0, -1)
        due(2, with(STRETCH, 2, 0, LENS, 1, 0, STRETCH, 2, 0, LENS, 1, 0).turns(0, 0));
        due(NONE, light.turns(0, 2));
        due(NONE, light.turns(0, -1));
        due(NONE, light.turns(1, 0));
        due(NONE, light.turns(-1, 0));
    }

    private static void beam() {
        begin(18);
        // TABLE from 0: (1, 4, -1/3, -1/3), from 1: (-1/3, 4, -1/3, 1), T 2/3
        LightRound light = with(STRETCH, 4, 0, MIRROR, 3, -3);
        due(18, light.beam(0, 0, 0, 0, 0));
        due(1, light.beam(0, 0, 0, 0, 1));
        due(-1, light.beam(0, 0, 0, 1, 0));
        due(6, light.beam(0, 0, 0, 1, 1));
        due(18, light.beam(0, 0, 1, 0, 0));
        due(1, light.beam(0, 0, 1, 1, 0));
        due(6, light.beam(0, 0, 1, 1, 1));
        due(NO, light.beam(0, 1, 0, 0, 0));
        // TABLE from 0: (-2, -3, 1, 1), from 1: (1, -3, 1, -2); what is below stays above 0
        LightRound under = with(STRETCH, 3, 0, LENS, 1, 0, STRETCH, 3, 0, LENS, 1, 0);
        due(12, under.beam(0, 0, 0, 0, 0));
        due(1, under.beam(0, 0, 0, 0, 1));
        due(-1, under.beam(0, 0, 0, 1, 0));
        due(2, under.beam(0, 0, 0, 1, 1));
        due(1, under.beam(0, 1, 1, 1, 0));
        due(2, under.beam(0, 1, 1, 1, 1));
        due(NO, light.beam(0, 0, 2, 0, 0));
        due(NO, light.beam(0, 0, -1, 0, 0));
        due(NO, light.beam(0, 0, 0, 2, 0));
        due(NO, light.beam(0, 0, 0, -1, 0));
        due(NO, light.beam(0, 0, 0, 0, 2));
        due(NO, light.beam(0, 0, 0, 0, -1));
        due(NO, light.beam(0, 2, 0, 0, 0));
        due(NO, light.beam(0, -1, 0, 0, 0));
        due(NO, light.beam(1, 0, 0, 0, 0));
        // T is 2 and -2: no beam, though the round holds
        due(NO, with(STOP, 5, 0).beam(0, 0, 0, 0, 0));
        due(NO, with(STRETCH, 2, 0, LENS, 1, 0, STRETCH, 2, 0, LENS, 1, 0).beam(0, 0, 0, 0, 0));
    }

    private static void waist() {
        begin(19);
        LightRound light = with(LENS, 4, 0, STRETCH, 3, 0, STOP, 9, 0, STRETCH, 3, 0);
        due(2, light.waist(0, 0));
        due(STRETCH, light.take(0, 3));
        due(0, light.waist(0, 0));
        LightRound mirror = with(STRETCH, 3, 0, STOP, 9, 0, STRETCH, 3, 0, MIRROR, 4, -4);
        due(1, mirror.waist(0, 0));
        due(NONE, mirror.waist(0, 1));
        due(4, mirror.turn(0));
        due(2, mirror.waist(0, 0));
        due(NONE, mirror.waist(0, 2));
        due(NONE, mirror.waist(0, -1));
        due(NONE, mirror.waist(1, 0));
        due(NONE, mirror.waist(-1, 0));
        due(NONE, with().waist(0, 0));
        due(NONE, with(STOP, 5, 0).waist(0, 0));
        due(NONE, with(STRETCH, 2, 0, LENS, 1, 0, STRETCH, 2, 0, LENS, 1, 0).waist(0, 0));
    }

    private static void axis() {
        begin(20);
        // from 0: (x, y) (x + 4 y, y) (.., y - (x + 4 y)/3) (.., that + 1)
        LightRound light = with(STRETCH, 4, 0, MIRROR, 3, -3, TILT, 1, 0);
        due(3, light.axis(0, 0, 0, 0, 0));
        due(1, light.axis(0, 0, 0, 0, 1));
        due(0, light.axis(0, 0, 0, 1, 0));
        due(1, light.axis(0, 0, 0, 1, 1));
        due(-1, light.axis(0, 0, 2, 1, 0));
        due(1, light.axis(0, 0, 2, 1, 1));
        due(-3, light.axis(0, 1, 1, 0, 0));
        due(0, light.axis(0, 1, 1, 1, 0));
        due(NO, light.axis(0, 0, 3, 0, 0));
        due(NO, light.axis(0, 0, -1, 0, 0));
        due(NO, light.axis(0, 0, 0, 2, 0));
        due(NO, light.axis(0, 0, 0, -1, 0));
        due(NO, light.axis(0, 0, 0, 0, 2));
        due(NO, light.axis(0, 0, 0, 0, -1));
        due(NO, light.axis(0, 2, 0, 0, 0));
        due(NO, light.axis(0, -1, 0, 0, 0));
        due(NO, light.axis(1, 0, 0, 0, 0));
        due(NO, with(TILT, 1, 0, LENS, 3, 0).axis(0, 0, 0, 0, 0));
        due(NO, with(STOP, 1, 0).axis(0, 0, 0, 0, 0));
        // T is -2, and beyond 2, with an axis still
        LightRound edge = with(TILT, 2, 0, STRETCH, 4, 0, LENS, 1, 0);
        due(1, edge.round(0, 0));
        due(2, edge.axis(0, 0, 0, 0, 0));
        due(1, edge.axis(0, 0, 0, 0, 1));
        due(-2, edge.axis(0, 0, 0, 1, 0));
        due(0, edge.set(0, 1, 8, 0));
        due(2, edge.round(0, 0));
        due(2, edge.axis(0, 0, 0, 0, 0));
        due(-2, edge.axis(0, 0, 0, 1, 0));
    }

    private static void span() {
        begin(21);
        // one lens of 3 holds for 0 < length < 12; a mirror whose ways are 3 and 2: for under 8
        LightRound light = with(STRETCH, 15, 0, LENS, 3, 0);
        for (int j = 0; j < 11; j++) {
            due(j + 1, light.span(0, 0, j));
        }
        due(NONE, light.span(0, 0, 11));
        due(NONE, light.span(0, 0, -1));
        due(NONE, light.span(0, 0, Integer.MAX_VALUE));
        due(15, light.part(0, 0, 1));
        due(2, light.round(0, 0));
        LightRound mirror = with(MIRROR, 3, 2, STRETCH, 15, 0);
        due(7, mirror.span(0, 1, 6));
        due(NONE, mirror.span(0, 1, 7));
        due(NONE, with(MIRROR, 3, -2, STRETCH, 15, 0).span(0, 1, 0));
        // a length with which the round is as no parts is in the span; 20 may be the last one
        LightRound alone = with(STRETCH, 9, 0);
        due(0, alone.span(0, 0, 0));
        due(NONE, alone.span(0, 0, 1));
        LightRound wide = with(STRETCH, 9, 0, LENS, 9, 0);
        due(20, wide.span(0, 0, 19));
        due(NONE, wide.span(0, 0, 20));
        due(STATE, light.span(0, 1, 0));
        due(STATE, mirror.span(0, 0, 0));
        due(STATE, with(TILT, 1, 0).span(0, 0, 0));
        due(STATE, with(STOP, 1, 0).span(0, 0, 0));
        due(NONE, light.span(0, 1, -1));
        due(NONE, light.span(0, 2, 0));
        due(NONE, light.span(0, -1, 0));
        due(NONE, light.span(1, 0, 0));
        due(NONE, light.span(-1, 0, 0));
    }

    private static void own() {
        begin(22);
        LightRound light = new LightRound();
        due(BAD, light.own(0));
        due(BAD, light.own(10));
        due(BAD, light.own(-10));
        due(0, light.count(2));
        int[] lengths = {-9, 9, 1, -1, 5, 5, 3, 4, 2, 6, 7, 8};
        for (int k = 0; k < lengths.length; k++) {
            due(k + 1, light.own(lengths[k]));
        }
        due(FULL, light.own(1));
        due(BAD, light.own(0));
        due(12, light.count(2));
        for (int k = 0; k < lengths.length; k++) {
            due(lengths[k], light.drawer(k));
        }
    }

    private static void fit() {
        begin(23);
        LightRound light = with(LENS, -1, 0, STRETCH, 12, 0);
        due(NONE, light.fit(0, 0));
        due(STATE, light.fit(0, 1));
        due(1, light.own(-4));
        due(2, light.own(3));
        due(NONE, light.fit(0, 0));
        due(3, light.own(5));
        due(4, light.own(4));
        due(2, light.fit(0, 0));
        due(-1, light.part(0, 0, 1));
        due(5, light.drawer(2));
        due(2, light.round(0, 0));
        due(-1, light.swap(0, 0, 0));
        due(-4, light.part(0, 0, 1));
        due(0, light.set(0, 0, 9, 0));
        due(9, light.swap(0, 0, 0));
        due(0, light.fit(0, 0));
        LightRound none = with(LENS, 3, 0, STRETCH, 20, 0);
        for (int k = 1; k <= 12; k++) {
            due(k, none.own(k % 5 - 6));
        }
        due(NONE, none.fit(0, 0));
        // both ways must hold: a mirror that is a strong one for way 1 alone
        LightRound both = with(LENS, 4, 0, MIRROR, 9, -4, STRETCH, 4, 0);
        due(1, both.own(9));
        due(2, both.own(2));
        due(1, both.fit(0, 0));
        due(STATE, both.fit(0, 1));
        due(STATE, both.fit(0, 2));
        due(STATE, with(TILT, 1, 0).fit(0, 0));
        due(STATE, with(STOP, 1, 0).fit(0, 0));
        due(NONE, light.fit(0, 2));
        due(NONE, light.fit(0, -1));
        due(NONE, light.fit(1, 0));
        due(NONE, light.fit(-1, 0));
    }

    private static void swap() {
        begin(24);
        LightRound light = with(STRETCH, 3, 0, LENS, -7, 0, MIRROR, 2, 2);
        due(NONE, light.swap(0, 1, 0));
        due(1, light.own(5));
        due(2, light.own(-2));
        due(-7, light.swap(0, 1, 1));
        due(-2, light.part(0, 1, 1));
        due(0, light.part(0, 1, 2));
        due(-7, light.drawer(1));
        due(5, light.drawer(0));
        due(2, light.count(2));
        due(-2, light.swap(0, 1, 0));
        due(5, light.part(0, 1, 1));
        due(-2, light.drawer(0));
        due(STATE, light.swap(0, 0, 0));
        due(STATE, light.swap(0, 2, 0));
        due(NONE, light.swap(0, 0, 2));
        due(NONE, light.swap(0, 1, 2));
        due(NONE, light.swap(0, 1, -1));
        due(NONE, light.swap(0, 3, 0));
        due(NONE, light.swap(0, -1, 0));
        due(NONE, light.swap(1, 1, 0));
        due(NONE, light.swap(-1, 1, 0));
        due(5, light.part(0, 1, 1));
        due(-2, light.drawer(0));
        due(-7, light.drawer(1));
    }

    private static void count() {
        begin(25);
        LightRound light = with(LENS, 3, 0, STRETCH, 5, 0);
        add(light, MIRROR, 3, -3, STRETCH, 5, 0, STOP, 1, 0);
        add(light);
        due(3, light.count(0));
        due(5, light.count(1));
        due(0, light.count(2));
        due(2, light.count(3));
        due(1, light.own(4));
        due(1, light.count(2));
        due(0, light.set(1, 0, 3, 3));
        due(3, light.count(3));
        due(0, light.set(1, 0, -3, 3));
        due(2, light.count(3));
        due(LENS, light.take(0, 0));
        due(4, light.count(1));
        due(1, light.count(3));
        due(NONE, light.count(4));
        due(NONE, light.count(-1));
    }

    private static void drawer() {
        begin(26);
        LightRound light = new LightRound();
        due(0, light.drawer(0));
        due(1, light.own(-6));
        due(2, light.own(8));
        due(-6, light.drawer(0));
        due(8, light.drawer(1));
        due(0, light.drawer(2));
        due(0, light.drawer(-1));
        due(0, light.drawer(12));
        due(0, light.drawer(Integer.MAX_VALUE));
        due(0, light.drawer(Integer.MIN_VALUE));
    }

    public static void main(String[] args) {
        newObject();
        bench();
        put();
        take();
        set();
        part();
        turn();
        join();
        table();
        ray();
        stops();
        full();
        image();
        same();
        round();
        trace();
        turns();
        beam();
        waist();
        axis();
        span();
        own();
        fit();
        swap();
        count();
        drawer();
        System.out.println(wrong == 0 ? "all promises are kept" : wrong + " answers are wrong");
        if (wrong != 0) {
            System.exit(1);
        }
    }
}
