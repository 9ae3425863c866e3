/** The boundaries that the document names for lengths and the drawer: promises 21 to 26. */
public final class DrawerBoundaryTests extends Checks {
    private static final Maker EMPTY = one();
    // One part of each kind that is no stretch and no lens, between one of each.
    private static final Maker KINDS = owning(one(STRETCH, 4, 0, LENS, 3, 0, MIRROR, 5, 5,
            TILT, 1, 0, STOP, 1, 0), 2, 3);

    /** The span of the part is low .. high, which j tells from 0 on, and no further j. */
    private static void dueSpan(Maker maker, int i, int low, int high) {
        for (int length = low; length <= high; length++) {
            int at = length;
            asked(maker, length, l -> l.span(0, i, at - low));
        }
        refusedBeyond(maker, NONE, 0, high - low, (l, n) -> l.span(0, i, n));
    }

    private static void span() {
        sentence("SPAN: the lengths 0 .. 20: all of them");
        dueSpan(one(STRETCH, 4, 0, MIRROR, 6, 8, STRETCH, 4, 0, MIRROR, -7, -9), 0, 0, 20);
        sentence("SPAN: the lengths 0 .. 20: the last one alone, the first one alone, none");
        dueSpan(one(STRETCH, 1, 0, MIRROR, 6, 7, STRETCH, 10, 0, LENS, -9, 0, STRETCH, 4, 0,
                LENS, 6, 0), 0, 20, 20);
        dueSpan(one(STRETCH, 1, 0, MIRROR, 6, -9, STRETCH, 10, 0, MIRROR, 6, 2), 0, 0, 0);
        dueSpan(one(STRETCH, 1, 0, LENS, -4, 0), 0, 0, -1);
        dueSpan(one(STRETCH, 9, 0, LENS, 9, 0), 0, 1, 20);
        sentence("SPAN: with which THE ROUND HOLDS: not at the EDGE");
        dueSpan(one(STRETCH, 5, 0, LENS, 3, 0), 0, 1, 11);
        dueSpan(one(STRETCH, 5, 0, LENS, 5, 0), 0, 1, 19);
        sentence("SPAN: with which THE ROUND HOLDS: though T is 2, or -2, for each length");
        dueSpan(one(STRETCH, 5, 0), 0, 0, 0);
        dueSpan(one(STRETCH, 5, 0, LENS, 1, 0, STRETCH, 2, 0, LENS, 1, 0), 0, 2, 2);
        sentence("SPAN: for both WAYS");
        dueSpan(one(STRETCH, 5, 0, MIRROR, 3, 2), 0, 1, 7);
        dueSpan(one(STRETCH, 5, 0, MIRROR, 2, 3), 0, 1, 7);
        dueSpan(one(STRETCH, 5, 0, MIRROR, 2, -3), 0, 0, -1);
        dueSpan(one(STRETCH, 5, 0, MIRROR, -2, 3), 0, 0, -1);
        dueSpan(one(STRETCH, 5, 0, MIRROR, 1, 2, STRETCH, 2, 0, MIRROR, 1, 2), 0, 2, 2);
        sentence("SPAN: all else being as it is, whatever its own length");
        dueSpan(one(LENS, 3, 0, STRETCH, 2, 0, STRETCH, 3, 0), 1, 0, 8);
        dueSpan(one(LENS, 3, 0, STRETCH, 2, 0, STRETCH, 3, 0), 2, 0, 9);
        dueSpan(one(LENS, 3, 0, STRETCH, 20, 0, STRETCH, 3, 0), 1, 0, 8);
        Maker last = one(TILT, 1, 0, STOP, 1, 0, TILT, 1, 0, LENS, 3, 0, STOP, 1, 0, STOP, 1, 0,
                STRETCH, 5, 0, STRETCH, 20, 0);
        dueSpan(last, 7, 0, 6);
        dueSpan(last, 6, 0, -1);
        sentence("STATE: it is no STRETCH");
        for (int i = 1; i < 5; i++) {
            int at = i;
            asked(KINDS, STATE, l -> l.span(0, at, 0));
            asked(KINDS, STATE, l -> l.span(0, at, 20));
            asked(KINDS, STATE, l -> l.span(0, at, 21));
            asked(KINDS, STATE, l -> l.span(0, at, Integer.MAX_VALUE));
        }
        sentence("The j-th length, from 0 on: NONE under 0, told ahead of STATE");
        for (int i = 0; i < 5; i++) {
            int at = i;
            asked(KINDS, NONE, l -> l.span(0, at, -1));
            asked(KINDS, NONE, l -> l.span(0, at, Integer.MIN_VALUE));
        }
    }

    private static void own() {
        sentence("A length more lies in THE DRAWER. BAD: it is no LENS's (-9 .. 9, not 0)");
        edges(EMPTY, BAD, -9, 1, 9, 1, (l, n) -> l.own(n));
        edges(owning(EMPTY, 3, 3), BAD, -9, 3, 9, 3, (l, n) -> l.own(n));
        asked(EMPTY, BAD, l -> l.own(0));
        asked(laden(), BAD, l -> l.own(0));
        due(1, EMPTY.make().own(1));
        due(1, EMPTY.make().own(-1));
        sentence("THE DRAWER has up to 12 lengths: how many. FULL");
        LightRound light = new LightRound();
        for (int k = 1; k <= 12; k++) {
            int length = k <= 9 ? k : 9 - k;
            due(k, light.own(length));
            due(k, light.count(2));
            due(length, light.drawer(k - 1));
        }
        due(FULL, light.own(1));
        due(12, light.count(2));
        asked(laden(), FULL, l -> l.own(-9));
        asked(laden(), FULL, l -> l.own(9));
        sentence("A length more: one that lies there already, too");
        LightRound twice = new LightRound();
        due(1, twice.own(4));
        due(2, twice.own(4));
        due(4, twice.drawer(0));
        due(4, twice.drawer(1));
        sentence("FULL: a swap leaves it so");
        LightRound full = laden().make();
        due(4, full.swap(3, 0, 0));
        due(FULL, full.own(1));
        due(12, full.count(2));
    }

    private static void fit() {
        Maker two = one(LENS, 1, 0, STRETCH, 20, 0);
        sentence("FIT: an empty DRAWER has none; STATE: it is no LENS, though");
        asked(two, NONE, l -> l.fit(0, 0));
        asked(two, STATE, l -> l.fit(0, 1));
        sentence("FIT: the first in THE DRAWER: of several");
        asked(owning(two, -9, 6, 5, 7, 9, 8), 1, l -> l.fit(0, 0));
        asked(owning(two, 9, 9), 0, l -> l.fit(0, 0));
        sentence("FIT: the first in THE DRAWER: the last place alone; none of 12");
        asked(owning(two, -9, -8, 5, 4, 3, 2, 1, -1, -2, -3, 5, 6), 11, l -> l.fit(0, 0));
        asked(owning(two, -9, -8, 5, 4, 3, 2, 1, -1, -2, -3, 5, 5), NONE, l -> l.fit(0, 0));
        sentence("with which it HOLDS: not at the EDGE, though T is 2 or -2 where it HOLDS");
        asked(owning(two, 5), NONE, l -> l.fit(0, 0));
        asked(owning(one(LENS, 5, 0, LENS, 2, 0), 3, -2, -2, 2), 1, l -> l.fit(0, 0));
        asked(owning(one(STRETCH, 2, 0, LENS, 5, 0, STRETCH, 2, 0, LENS, 1, 0), -1, 1), 1,
                l -> l.fit(0, 1));
        sentence("FIT: for both WAYS");
        Maker mirror = one(LENS, 1, 0, MIRROR, 9, -4, STRETCH, 4, 0);
        asked(owning(mirror, 9, 1, 2), 2, l -> l.fit(0, 0));
        asked(owning(mirror, 9, 1, -9), NONE, l -> l.fit(0, 0));
        asked(owning(one(LENS, 1, 0, MIRROR, -4, 9, STRETCH, 4, 0), 9, 1, 2), 2,
                l -> l.fit(0, 0));
        sentence("FIT: what it is itself does not count");
        asked(owning(one(LENS, 9, 0, STRETCH, 20, 0), 5, 4), NONE, l -> l.fit(0, 0));
        sentence("FIT: all else being as it is, the last PART of a full BENCH too");
        asked(owning(one(STRETCH, 5, 0, STRETCH, 5, 0, STRETCH, 5, 0, STRETCH, 5, 0, STOP, 1, 0,
                TILT, 1, 0, TILT, 1, 0, LENS, -1, 0), 5, 6), 1, l -> l.fit(0, 7));
        sentence("fit, STATE: it is no LENS");
        for (int i = 0; i < 5; i++) {
            int at = i;
            asked(KINDS, i == 1 ? 0 : STATE, l -> l.fit(0, at));
        }
    }

    private static void swap() {
        sentence("A LENS becomes the one in a place: the first and the last, and none beyond");
        edges(laden(), NONE, 0, 4, 11, 4, (l, n) -> l.swap(3, 0, n));
        Maker lens = one(STOP, 1, 0, LENS, 3, 0);
        edges(owning(lens, -5), NONE, 0, 3, 0, 3, (l, n) -> l.swap(0, 1, n));
        refusedBeyond(lens, NONE, 0, -1, (l, n) -> l.swap(0, 1, n));
        sentence("where what it was lies then: what it was");
        for (int place : new int[] {0, 11}) {
            LightRound light = laden().make();
            int before = light.drawer(place);
            int next = light.drawer(5);
            due(-7, light.swap(0, 5, place));
            due(before, light.part(0, 5, 1));
            due(0, light.part(0, 5, 2));
            due(LENS, light.part(0, 5, 0));
            due(-7, light.drawer(place));
            due(next, light.drawer(5));
            due(12, light.count(2));
            due(before, light.swap(0, 5, place));
            due(-7, light.part(0, 5, 1));
            due(before, light.drawer(place));
        }
        sentence("A LENS becomes the one in a place: the same length changes nothing");
        asked(owning(lens, 3), 3, l -> l.swap(0, 1, 0));
        sentence("A LENS becomes the one in a place, whether it HOLDS then or not");
        LightRound worse = owning(one(LENS, 9, 0, STRETCH, 20, 0), -1).make();
        due(0, worse.round(0, 0));
        due(9, worse.swap(0, 0, 0));
        due(2, worse.round(0, 0));
        sentence("swap: the LENS alone, no other of the same length");
        changed(owning(one(LENS, 3, 0, LENS, 3, 0, LENS, 3, 0), 8), 3, l -> l.swap(0, 1, 0), 0,
                LENS, 3, 0, LENS, 8, 0, LENS, 3, 0);
        sentence("swap, STATE: it is no LENS");
        for (int i = 0; i < 5; i++) {
            int at = i;
            if (i != 1) {
                asked(KINDS, STATE, l -> l.swap(0, at, 0));
                asked(KINDS, STATE, l -> l.swap(0, at, 1));
                asked(KINDS, NONE, l -> l.swap(0, at, 2));
                asked(KINDS, NONE, l -> l.swap(0, at, -1));
            }
        }
        due(3, KINDS.make().swap(0, 1, 0));
    }

    private static void count() {
        sentence("0 BENCHES, 1 PARTS of all, 2 lengths in THE DRAWER: the most there may be");
        int[] eight = {STOP, 1, 0, STOP, 1, 0, STOP, 1, 0, STOP, 1, 0, STOP, 1, 0, STOP, 1, 0,
            STOP, 1, 0, STOP, 1, 0};
        Maker most = owning(of(eight, eight, eight, eight), 1, 1, 1, 1, 1, 1, 1, 1, 1, 1, 1, 1);
        asked(most, 4, l -> l.count(0));
        asked(most, 32, l -> l.count(1));
        asked(most, 12, l -> l.count(2));
        asked(most, 4, l -> l.count(3));
        sentence("3 BENCHES that HOLD for both WAYS: not at the EDGE, not for one WAY alone");
        asked(of(row(), row(), row(), row()), 4, l -> l.count(3));
        asked(of(row(STRETCH, 1, 0), row(LENS, 1, 0), row()), 1, l -> l.count(3));
        asked(of(row(STRETCH, 4, 0, MIRROR, 3, -3), row(STRETCH, 4, 0, MIRROR, -3, 3),
                row(STRETCH, 4, 0, MIRROR, 3, 3)), 1, l -> l.count(3));
        asked(of(row(STRETCH, 4, 0, MIRROR, 3, 1), row(STRETCH, 4, 0, MIRROR, 1, 3)), 0,
                l -> l.count(3));
        asked(of(row(STRETCH, 4, 0, LENS, 1, 0), row(STRETCH, 3, 0, LENS, 1, 0),
                row(STRETCH, 5, 0, LENS, 1, 0)), 1, l -> l.count(3));
        asked(of(row(STRETCH, 2, 0, LENS, 1, 0, STRETCH, 2, 0, LENS, 1, 0)), 1,
                l -> l.count(3));
    }

    private static void drawer() {
        sentence("The length in a place of THE DRAWER, from 0 on; 0: none such");
        edges(laden(), 0, 0, -9, 11, 8, (l, n) -> l.drawer(n));
        edges(owning(EMPTY, -4), 0, 0, -4, 0, -4, (l, n) -> l.drawer(n));
        edges(owning(EMPTY, -4, 7, -2), 0, 0, -4, 2, -2, (l, n) -> l.drawer(n));
        refusedBeyond(EMPTY, 0, 0, -1, (l, n) -> l.drawer(n));
        asked(laden(), 0, l -> l.drawer(12));
    }

    private static void calls() {
        sentence("An object is used for at most 512 calls: the last ones answer as the first");
        LightRound light = new LightRound();
        due(0, light.bench());
        due(1, light.put(0, 0, STRETCH, 4, 0));
        due(2, light.put(0, 1, MIRROR, 3, -3));
        for (int call = 4; call <= 504; call++) {
            due(NONE, light.span(0, 0, 0));
        }
        due(18, light.beam(0, 0, 0, 0, 0));
        due(1, light.bench());
        due(1, light.own(5));
        due(1, light.put(1, 0, LENS, -2, 0));
        due(-2, light.swap(1, 0, 0));
        due(3, light.join(1, 0));
        due(3, light.turn(1));
        due(2, light.count(0));
    }

    public static void main(String[] args) {
        span();
        own();
        fit();
        swap();
        count();
        drawer();
        calls();
        end();
    }
}
