/** The boundaries that the document names for tables and rays: promises 9 to 14. */
public final class RayBoundaryTests extends Checks {
    private static final Maker EMPTY = one();
    // Numbers as large as they come, and lines as long.
    private static final Maker BIG = one(STRETCH, 20, 0, STRETCH, 20, 0, MIRROR, -1, -9,
            STRETCH, 20, 0, LENS, -1, 0, TILT, 3, 0, STRETCH, 20, 0, MIRROR, -1, -8);
    private static final Maker FINE = one(TILT, -3, 0, STRETCH, 19, 0, LENS, 9, 0,
            STRETCH, 17, 0, MIRROR, -8, 7, TILT, 3, 0, LENS, 7, 0, STRETCH, 20, 0);

    /** A .. F, each as what is above and what is below. */
    private static void dueTable(Maker maker, int way, long... fractions) {
        for (int k = 0; k < fractions.length; k++) {
            int at = k;
            asked(maker, fractions[k], l -> l.table(0, way, at / 2, at % 2));
        }
    }

    private static void dueRay(Maker maker, int way, int x, int y, int n, long... fractions) {
        for (int k = 0; k < fractions.length; k++) {
            int at = k;
            asked(maker, fractions[k], l -> l.ray(0, way, x, y, n, at / 2, at % 2));
        }
    }

    private static void dueImage(Maker maker, int way, long... fractions) {
        for (int k = 0; k < fractions.length; k++) {
            int at = k;
            asked(maker, fractions[k], l -> l.image(0, way, at / 2, at % 2));
        }
    }

    private static void tables() {
        long[] plain = {1, 1, 0, 1, 0, 1, 1, 1, 0, 1, 0, 1};
        sentence("THE TABLE of a BENCH without PARTS; 0 is 0 by 1");
        dueTable(EMPTY, 0, plain);
        dueTable(EMPTY, 1, plain);
        sentence("a STOP nothing; a STRETCH of 0 and a TILT by 0 likewise");
        dueTable(one(STOP, 1, 0, STRETCH, 0, 0, TILT, 0, 0, STOP, 1000, 0), 0, plain);
        sentence("A STRETCH makes (x + a y, y): 20 at most");
        dueTable(one(STRETCH, 20, 0), 0, 1, 1, 20, 1, 0, 1, 1, 1, 0, 1, 0, 1);
        sentence("a LENS (x, y - x / a); below its line above 0, for an a under 0 too");
        dueTable(one(LENS, 9, 0), 0, 1, 1, 0, 1, -1, 9, 1, 1, 0, 1, 0, 1);
        dueTable(one(LENS, -9, 0), 1, 1, 1, 0, 1, 1, 9, 1, 1, 0, 1, 0, 1);
        dueTable(one(LENS, 1, 0), 0, 1, 1, 0, 1, -1, 1, 1, 1, 0, 1, 0, 1);
        dueTable(one(LENS, -1, 0), 1, 1, 1, 0, 1, 1, 1, 1, 1, 0, 1, 0, 1);
        sentence("a MIRROR likewise with a, or b, by the WAY");
        dueTable(one(MIRROR, -9, 8), 0, 1, 1, 0, 1, 1, 9, 1, 1, 0, 1, 0, 1);
        dueTable(one(MIRROR, -9, 8), 1, 1, 1, 0, 1, -1, 8, 1, 1, 0, 1, 0, 1);
        sentence("a TILT (x, y + a)");
        dueTable(one(TILT, -3, 0), 0, 1, 1, 0, 1, 0, 1, 1, 1, 0, 1, -3, 1);
        dueTable(one(TILT, 3, 0, TILT, 3, 0), 1, 1, 1, 0, 1, 0, 1, 1, 1, 0, 1, 6, 1);
        sentence("The RAY goes through PART 0, then 1");
        dueTable(one(TILT, 1, 0, STRETCH, 3, 0), 0, 1, 1, 3, 1, 0, 1, 1, 1, 3, 1, 1, 1);
        dueTable(one(STRETCH, 3, 0, TILT, 1, 0), 0, 1, 1, 3, 1, 0, 1, 1, 1, 0, 1, 1, 1);
        sentence("without a common divisor, that below above 0");
        dueTable(one(STRETCH, 6, 0, LENS, -4, 0), 0, 1, 1, 6, 1, 1, 4, 5, 2, 0, 1, 0, 1);
        dueTable(one(LENS, -6, 0, LENS, -3, 0, LENS, 2, 0), 0, plain);
        dueTable(one(LENS, -6, 0, LENS, -3, 0), 0, 1, 1, 0, 1, 1, 2, 1, 1, 0, 1, 0, 1);
        sentence("All numbers are exact: the largest ones");
        dueTable(BIG, 0, 461, 1, 18880, 1, 483, 1, 19781, 1, 60, 1, 63, 1);
        dueTable(BIG, 1, 629, 9, 29120, 9, 869, 72, 5029, 9, 60, 1, 21, 2);
        dueTable(FINE, 0, -176, 63, -2791, 126, -2, 21, -187, 168, 5311, 42, 355, 56);
        dueTable(FINE, 1, 124, 63, -1433, 63, 1, 7, -8, 7, 2693, 21, 45, 7);
    }

    private static void product(Maker maker, int way) {
        long[] t = new long[8];
        for (int k = 0; k < 8; k++) {
            t[k] = maker.make().table(0, way, k / 2, k % 2);
        }
        // A D - B C, all brought above one line.
        long above = t[0] * t[6] * t[3] * t[5] - t[2] * t[4] * t[1] * t[7];
        due(t[1] * t[7] * t[3] * t[5], above);
    }

    private static void products() {
        sentence("(A D - B C is 1.)");
        for (int way = 0; way < 2; way++) {
            product(EMPTY, way);
            product(BIG, way);
            product(FINE, way);
            product(laden(), way);
        }
    }

    private static void oneCallAfterAnother() {
        sentence("THE TABLE is of the one BENCH: no call leaves something for the next");
        LightRound light = of(row(TILT, 3, 0, STRETCH, 5, 0, LENS, -7, 0), row()).make();
        for (int entry = 0; entry < 6; entry++) {
            light.table(0, 0, 5, 0);
            due(entry == 0 || entry == 3 ? 1 : 0, light.table(1, 0, entry, 0));
            light.same(1, 0, 0);
            due(1, light.table(1, 0, entry, 1));
        }
        due(0, light.same(0, 1, 0));
        due(1, light.same(1, 1, 0));
        due(0, light.same(1, 0, 0));
        due(1, light.same(1, 1, 0));
        light.full(0, 0);
        due(1000, light.full(1, 0));
        due(0, light.ray(1, 0, 0, 0, 0, 0, 0));
    }

    private static void rays() {
        sentence("NO: x or y not -1000 .. 1000");
        edges(laden(), NO, -1000, -1000, 1000, 1000, (l, n) -> l.ray(0, 0, n, 0, 0, 0, 0));
        edges(laden(), NO, -1000, -1000, 1000, 1000, (l, n) -> l.ray(0, 0, 0, n, 0, 1, 0));
        edges(laden(), NO, -1000, -571, 1000, 529, (l, n) -> l.ray(0, 0, n, 0, 8, 0, 0));
        edges(laden(), NO, -1000, -22121, 1000, 22079, (l, n) -> l.ray(0, 0, 0, n, 8, 0, 0));
        sentence("NO: n not 0 .. as many as there are");
        edges(laden(), NO, 0, 1000, 8, 22629, (l, n) -> l.ray(0, 0, 1000, 1000, n, 0, 0));
        edges(laden(), NO, 0, 2, 3, -1, (l, n) -> l.ray(1, 0, 4, 2, n, 1, 0));
        edges(EMPTY, NO, 0, -7, 0, -7, (l, n) -> l.ray(0, 1, -7, 3, n, 0, 0));
        sentence("Where the RAY (x, y) is behind n PARTS: behind none of them it is as it was");
        dueRay(BIG, 0, -1000, 1000, 0, -1000, 1, 1000, 1);
        dueRay(BIG, 0, 0, 0, 0, 0, 1, 0, 1);
        sentence("Where the RAY (x, y) is behind n PARTS: behind each one");
        Maker all = one(STRETCH, 2, 0, LENS, -4, 0, TILT, 3, 0, MIRROR, 2, 8, STOP, 1, 0);
        dueRay(all, 0, 1, 2, 1, 5, 1, 2, 1);
        dueRay(all, 0, 1, 2, 2, 5, 1, 13, 4);
        dueRay(all, 0, 1, 2, 3, 5, 1, 25, 4);
        dueRay(all, 0, 1, 2, 4, 5, 1, 15, 4);
        dueRay(all, 1, 1, 2, 4, 5, 1, 45, 8);
        sentence("a STOP makes nothing of it, though the RAY does not PASS there");
        dueRay(all, 0, 1, 2, 5, 5, 1, 15, 4);
        sentence("0 is 0 by 1; that below above 0; without a common divisor");
        dueRay(one(STRETCH, 3, 0, LENS, -6, 0), 0, -3, 1, 2, 0, 1, 1, 1);
        dueRay(one(LENS, -6, 0), 0, -3, 0, 1, -3, 1, -1, 2);
        dueRay(one(LENS, -6, 0), 0, 6, -1, 1, 6, 1, 0, 1);
        sentence("All numbers are exact: the largest ones");
        dueRay(BIG, 0, 1000, 1000, 8, 19341060, 1, 20264063, 1);
        dueRay(BIG, 1, 1000, 1000, 8, 29749540, 9, 10275439, 18);
        dueRay(BIG, 1, -1000, -1000, 8, -29748460, 9, -10275061, 18);
        dueRay(BIG, 1, 1000, -1000, 8, -9496820, 3, -3280187, 6);
        dueRay(FINE, 0, -1000, 997, 8, -402449, 21, -28229, 28);
        dueRay(FINE, 1, 999, -1000, 8, 223565, 9, 1292, 1);
    }

    private static void stops() {
        sentence("A RAY PASSES if it is not farther than that from the line (on either side)");
        for (int stop : new int[] {1, 7, 999}) {
            Maker maker = one(STOP, stop, 0);
            asked(maker, NONE, l -> l.stops(0, 0, stop, 0));
            asked(maker, NONE, l -> l.stops(0, 0, -stop, 0));
            asked(maker, 0, l -> l.stops(0, 0, stop + 1, 0));
            asked(maker, 0, l -> l.stops(0, 0, -stop - 1, 0));
        }
        asked(one(STOP, 1000, 0), NONE, l -> l.stops(0, 0, 1000, 1000));
        asked(one(STOP, 1000, 0), NONE, l -> l.stops(0, 0, -1000, -1000));
        sentence("A RAY PASSES: a fraction beyond the STOP is beyond it");
        Maker bent = one(LENS, -9, 0, STRETCH, 1, 0, STOP, 10, 0);
        asked(bent, NONE, l -> l.stops(0, 0, 9, 0));
        asked(bent, 2, l -> l.stops(0, 0, 10, 0));
        asked(bent, 2, l -> l.stops(0, 0, -10, 0));
        asked(bent, NONE, l -> l.stops(0, 0, 10, -2));
        asked(bent, 2, l -> l.stops(0, 0, 1, 9));
        asked(bent, 2, l -> l.stops(0, 0, -1, -9));
        asked(bent, NONE, l -> l.stops(0, 0, -1, 9));
        sentence("The first STOP at which the RAY does not PASS, as a PART");
        Maker two = one(STOP, 5, 0, STRETCH, 2, 0, STOP, 5, 0, STRETCH, 2, 0, STOP, 5, 0);
        asked(two, NONE, l -> l.stops(0, 0, 1, 1));
        asked(two, 4, l -> l.stops(0, 0, 2, 1));
        asked(two, 2, l -> l.stops(0, 0, 4, 1));
        asked(two, 0, l -> l.stops(0, 0, 6, 0));
        asked(two, 0, l -> l.stops(0, 0, 6, -1));
        asked(two, 2, l -> l.stops(0, 0, 5, -6));
        Maker last = one(STRETCH, 1, 0, STRETCH, 1, 0, STRETCH, 1, 0, STRETCH, 1, 0,
                STRETCH, 1, 0, STRETCH, 1, 0, STRETCH, 1, 0, STOP, 7, 0);
        asked(last, NONE, l -> l.stops(0, 0, 0, 1));
        asked(last, 7, l -> l.stops(0, 0, 1, 1));
        asked(last, 7, l -> l.stops(0, 0, -1, -1));
        sentence("the STOP is where it stands: what comes behind it does not count");
        asked(one(STOP, 5, 0, STRETCH, 20, 0), NONE, l -> l.stops(0, 0, 5, 1000));
        asked(one(STRETCH, 20, 0, STOP, 5, 0), 1, l -> l.stops(0, 0, 5, 1));
        asked(one(TILT, 3, 0, STOP, 1, 0, STRETCH, 20, 0), NONE, l -> l.stops(0, 0, 1, 0));
        asked(one(TILT, 3, 0, STRETCH, 2, 0, STOP, 6, 0), NONE, l -> l.stops(0, 0, 0, 0));
        asked(one(TILT, 3, 0, STRETCH, 2, 0, STOP, 5, 0), 2, l -> l.stops(0, 0, 0, 0));
        asked(one(TILT, -3, 0, STRETCH, 2, 0, STOP, 5, 0), 2, l -> l.stops(0, 0, 0, 0));
        sentence("by the WAY");
        Maker mirror = one(MIRROR, 1, -1, STRETCH, 2, 0, STOP, 2, 0);
        asked(mirror, NONE, l -> l.stops(0, 0, 2, 0));
        asked(mirror, 2, l -> l.stops(0, 1, 2, 0));
    }

    private static void noStops() {
        sentence("NONE: none");
        asked(EMPTY, NONE, l -> l.stops(0, 0, 1000, 1000));
        asked(one(STRETCH, 20, 0, LENS, -1, 0, STRETCH, 20, 0), NONE,
                l -> l.stops(0, 0, 1000, 1000));
        sentence("NONE: x or y not -1000 .. 1000");
        edges(one(STOP, 999, 0), NONE, -1000, 0, 1000, 0, (l, n) -> l.stops(0, 0, n, 0));
        edges(one(STRETCH, 1, 0, STOP, 999, 0), NONE, -1000, 1, 1000, 1,
                (l, n) -> l.stops(0, 0, 0, n));
        edges(one(STOP, 1, 0), NONE, -1000, 0, 1000, 0, (l, n) -> l.stops(0, 1, 1000, n));
    }

    private static void full() {
        sentence("The greatest y, 0 .. 1000, with which the RAYS all PASS: 1000 at most");
        asked(EMPTY, 1000, l -> l.full(0, 0));
        asked(one(STRETCH, 20, 0, LENS, 1, 0), 1000, l -> l.full(0, 1));
        asked(one(STOP, 1, 0), 1000, l -> l.full(0, 0));
        asked(one(STRETCH, 1, 0, STOP, 1000, 0), 1000, l -> l.full(0, 0));
        asked(one(STRETCH, 1, 0, STOP, 999, 0), 999, l -> l.full(0, 0));
        asked(one(TILT, -1, 0, STRETCH, 1, 0, STOP, 1000, 0), 1000, l -> l.full(0, 0));
        asked(one(TILT, -1, 0, STRETCH, 1, 0, STOP, 999, 0), 1000, l -> l.full(0, 0));
        asked(one(TILT, -1, 0, STRETCH, 1, 0, STOP, 998, 0), 999, l -> l.full(0, 0));
        sentence("The greatest y, 0 .. 1000: the least is 0");
        asked(one(STRETCH, 20, 0, STOP, 20, 0), 1, l -> l.full(0, 0));
        asked(one(STRETCH, 20, 0, STOP, 19, 0), 0, l -> l.full(0, 0));
        sentence("(0, 0), (0, 1), .. (0, y) all PASS, at each STOP");
        asked(one(STRETCH, 4, 0, STOP, 12, 0, STRETCH, 1, 0, STOP, 15, 0), 3, l -> l.full(0, 0));
        asked(one(STRETCH, 4, 0, STOP, 12, 0, STRETCH, 1, 0, STOP, 14, 0), 2, l -> l.full(0, 0));
        asked(one(STRETCH, 4, 0, STOP, 11, 0, STRETCH, 1, 0, STOP, 15, 0), 2, l -> l.full(0, 0));
        sentence("all PASS, with fractions: 7 y / 3 against the STOP");
        asked(one(STRETCH, 4, 0, LENS, 3, 0, STRETCH, 5, 0, STOP, 7, 0), 3, l -> l.full(0, 0));
        asked(one(STRETCH, 4, 0, LENS, 3, 0, STRETCH, 5, 0, STOP, 6, 0), 2, l -> l.full(0, 0));
        sentence("on either side: -2 y and 14 y by the WAY");
        Maker bent = one(STRETCH, 4, 0, MIRROR, 1, -1, STRETCH, 2, 0, STOP, 8, 0);
        asked(bent, 4, l -> l.full(0, 0));
        asked(bent, 0, l -> l.full(0, 1));
        asked(one(STRETCH, 4, 0, MIRROR, 1, -1, STRETCH, 2, 0, STOP, 28, 0), 14,
                l -> l.full(0, 0));
        asked(one(STRETCH, 4, 0, MIRROR, 1, -1, STRETCH, 2, 0, STOP, 28, 0), 2,
                l -> l.full(0, 1));
        sentence("on either side: 6 - 2 y and -6 - 2 y, 6 + 14 y and -6 + 14 y by the WAY");
        Maker up = one(STRETCH, 4, 0, MIRROR, 1, -1, TILT, 3, 0, STRETCH, 2, 0, STOP, 8, 0);
        asked(up, 7, l -> l.full(0, 0));
        asked(up, 0, l -> l.full(0, 1));
        Maker down = one(STRETCH, 4, 0, MIRROR, 1, -1, TILT, -3, 0, STRETCH, 2, 0, STOP, 8, 0);
        asked(down, 1, l -> l.full(0, 0));
        asked(down, 1, l -> l.full(0, 1));
        sentence("each y comes to the same place: all of them, or NONE: (0, 0) does not");
        asked(one(STRETCH, 2, 0, LENS, 1, 0, STRETCH, 2, 0, STOP, 1, 0), 1000,
                l -> l.full(0, 0));
        asked(one(STRETCH, 2, 0, LENS, 1, 0, TILT, 1, 0, STRETCH, 2, 0, STOP, 2, 0), 1000,
                l -> l.full(0, 0));
        asked(one(STRETCH, 2, 0, LENS, 1, 0, TILT, 1, 0, STRETCH, 2, 0, STOP, 1, 0), NONE,
                l -> l.full(0, 0));
    }

    private static void fullNone() {
        sentence("NONE: (0, 0) does not");
        asked(one(TILT, 3, 0, STRETCH, 20, 0, STOP, 60, 0), 0, l -> l.full(0, 0));
        asked(one(TILT, 3, 0, STRETCH, 20, 0, STOP, 59, 0), NONE, l -> l.full(0, 0));
        sentence("NONE: (0, 0) does not, though (0, 1) would");
        asked(one(TILT, -3, 0, STRETCH, 20, 0, STOP, 60, 0), 6, l -> l.full(0, 0));
        asked(one(TILT, -3, 0, STRETCH, 20, 0, STOP, 59, 0), NONE, l -> l.full(0, 0));
        sentence("NONE: (0, 0) does not, at a later STOP alone");
        asked(one(STOP, 1, 0, TILT, 2, 0, STRETCH, 2, 0, STOP, 3, 0), NONE, l -> l.full(0, 0));
        asked(one(TILT, 2, 0, STRETCH, 2, 0, STOP, 3, 0, STRETCH, 9, 0, STOP, 1000, 0), NONE,
                l -> l.full(0, 0));
    }

    private static void image() {
        sentence("There is none if D is 0");
        dueImage(one(STRETCH, 4, 0, LENS, 4, 0), 0, NO, NO, NO, NO);
        dueImage(one(STRETCH, 4, 0, MIRROR, 4, 5), 0, NO, NO, NO, NO);
        dueImage(one(STRETCH, 4, 0, MIRROR, 4, 5), 1, -20, 1, 5, 1);
        sentence("There is none if D is 0: next to it there is one, far off");
        dueImage(one(STRETCH, 8, 0, LENS, 9, 0), 0, -72, 1, 9, 1);
        dueImage(one(STRETCH, 10, 0, LENS, 9, 0), 0, 90, 1, -9, 1);
        dueImage(one(STRETCH, 20, 0, LENS, -9, 0, STRETCH, 19, 0, LENS, 9, 0, STRETCH, 7, 0,
                LENS, -7, 0), 0, 23023, 1, -567, 1);
        sentence("the STRETCH s (a fraction, of any sign) with which B + s D is 0; A + s C");
        dueImage(EMPTY, 0, 0, 1, 1, 1);
        dueImage(one(LENS, -3, 0), 0, 0, 1, 1, 1);
        dueImage(one(STRETCH, 20, 0), 0, -20, 1, 1, 1);
        dueImage(one(STRETCH, 3, 0, MIRROR, 5, -5), 0, -15, 2, 5, 2);
        dueImage(one(STRETCH, 3, 0, MIRROR, 5, -5), 1, -15, 8, 5, 8);
        dueImage(one(STRETCH, 6, 0, LENS, 4, 0), 0, 12, 1, -2, 1);
        dueImage(one(STRETCH, 2, 0, LENS, 1, 0, STRETCH, 2, 0), 0, 0, 1, -1, 1);
        sentence("IMAGE: of A, B, C, D alone, a TILT changes nothing");
        dueImage(one(TILT, 3, 0, STRETCH, 6, 0, LENS, 4, 0, TILT, -2, 0), 0, 12, 1, -2, 1);
    }

    /** Bench 0 and 1 have one table for way 0, or not, whichever is named first. */
    private static void dueSame(int want, int[] one, int[] other) {
        Maker both = of(one, other);
        asked(both, want, l -> l.same(0, 1, 0));
        asked(both, want, l -> l.same(1, 0, 0));
    }

    private static void same() {
        sentence("Whether two BENCHES have one TABLE: A alone differs");
        dueSame(0, row(STRETCH, 4, 0, LENS, 4, 0, STRETCH, 1, 0),
                row(STRETCH, 4, 0, LENS, 4, 0, STRETCH, 2, 0));
        sentence("Whether two BENCHES have one TABLE: B alone differs");
        dueSame(0, row(STRETCH, 1, 0), row(STRETCH, 2, 0));
        sentence("Whether two BENCHES have one TABLE: C alone differs");
        dueSame(0, row(LENS, 8, 0), row(LENS, 9, 0));
        dueSame(0, row(LENS, 9, 0), row(LENS, -9, 0));
        sentence("Whether two BENCHES have one TABLE: D alone differs");
        dueSame(0, row(STRETCH, 1, 0, LENS, 4, 0, STRETCH, 4, 0),
                row(STRETCH, 2, 0, LENS, 4, 0, STRETCH, 4, 0));
        sentence("Whether two BENCHES have one TABLE: E alone differs");
        dueSame(0, row(STRETCH, 1, 0), row(TILT, 1, 0, STRETCH, 1, 0, TILT, -1, 0));
        sentence("Whether two BENCHES have one TABLE: F alone differs");
        dueSame(0, row(), row(TILT, 1, 0));
        dueSame(0, row(TILT, -1, 0), row(TILT, 1, 0));
        sentence("Whether two BENCHES have one TABLE: 1, of other PARTS too");
        dueSame(1, row(), row());
        dueSame(1, row(), row(STOP, 1, 0, TILT, 0, 0, STRETCH, 0, 0));
        dueSame(1, row(), row(TILT, 3, 0, TILT, -3, 0));
        dueSame(1, row(LENS, 2, 0), row(LENS, 6, 0, LENS, 3, 0));
        dueSame(1, row(LENS, 9, 0, LENS, -9, 0), row(LENS, -8, 0, LENS, 8, 0));
        dueSame(1, row(STRETCH, 20, 0), row(STRETCH, 1, 0, STRETCH, 19, 0));
        sentence("Whether two BENCHES have one TABLE, for a WAY");
        Maker mirrors = of(row(MIRROR, 4, 5), row(LENS, 4, 0), row(MIRROR, 5, 5));
        asked(mirrors, 1, l -> l.same(0, 1, 0));
        asked(mirrors, 0, l -> l.same(0, 1, 1));
        asked(mirrors, 0, l -> l.same(2, 0, 0));
        asked(mirrors, 1, l -> l.same(2, 0, 1));
        sentence("Whether two BENCHES have one TABLE: one BENCH has its own");
        asked(laden(), 1, l -> l.same(0, 0, 0));
        asked(laden(), 1, l -> l.same(0, 0, 1));
        asked(laden(), 1, l -> l.same(2, 2, 1));
    }

    public static void main(String[] args) {
        tables();
        products();
        oneCallAfterAnother();
        rays();
        stops();
        noStops();
        full();
        fullNone();
        image();
        same();
        end();
    }
}
