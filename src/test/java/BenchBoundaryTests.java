/** The boundaries that the document names for benches and parts: promises 1 to 8. */
public final class BenchBoundaryTests extends Checks {
    private static final Maker EMPTY = one();

    /** Puts, and sets, a part with these numbers, and finds it as it was put. */
    private static void taken(int kind, int a, int b) {
        changed(EMPTY, 1, l -> l.put(0, 0, kind, a, b), 0, kind, a, b);
        changed(some(kind), 0, l -> l.set(0, 1, a, b), 0, TILT, 1, 0, kind, a, b, TILT, -1, 0);
    }

    private static void bad(int kind, int a, int b) {
        asked(EMPTY, BAD, l -> l.put(0, 0, kind, a, b));
        asked(some(kind), BAD, l -> l.put(0, 3, kind, a, b));
        asked(some(kind), BAD, l -> l.set(0, 1, a, b));
    }

    /** One part of a kind, with numbers inside its bounds, between two others. */
    private static Maker some(int kind) {
        return one(TILT, 1, 0, kind, 2, kind == MIRROR ? 3 : 0, TILT, -1, 0);
    }

    private static void newObject() {
        sentence("No BENCHES, an empty DRAWER");
        Maker fresh = LightRound::new;
        asked(fresh, 0, l -> l.count(0));
        asked(fresh, 0, l -> l.count(1));
        asked(fresh, 0, l -> l.count(2));
        asked(fresh, 0, l -> l.count(3));
        asked(fresh, 0, l -> l.drawer(0));
        asked(fresh, NONE, l -> l.turn(0));
        due(0, fresh.make().bench());
        due(1, fresh.make().own(1));
        LightRound one = laden().make();
        LightRound other = new LightRound();
        due(4, one.count(0));
        due(0, other.count(0));
        due(0, other.count(2));
    }

    private static void benches() {
        sentence("BENCHES are numbered from 0 on, 4 at most; A BENCH more: its number. FULL");
        LightRound light = new LightRound();
        for (int bench = 0; bench < 4; bench++) {
            due(bench, light.bench());
            due(bench + 1, light.count(0));
        }
        due(FULL, light.bench());
        due(FULL, light.bench());
        due(4, light.count(0));
        asked(laden(), FULL, l -> l.bench());
        asked(of(row(), row(), row(), row()), FULL, l -> l.bench());
        sentence("A BENCH more, without PARTS");
        LightRound second = laden().make();
        due(FULL, second.bench());
        LightRound third = one(LENS, 4, 0, STRETCH, 1, 0).make();
        due(1, third.bench());
        due(NO_PART, third.part(1, 0, 0));
        due(0, third.turn(1));
        due(2, third.count(1));
    }

    private static void whereAPartComes() {
        sentence("A PART comes ahead of PART i (i as many as there are: behind all)");
        Maker two = one(STOP, 1, 0, STOP, 2, 0);
        changed(two, 3, l -> l.put(0, 0, MIRROR, 5, -6), 0,
                MIRROR, 5, -6, STOP, 1, 0, STOP, 2, 0);
        changed(two, 3, l -> l.put(0, 1, MIRROR, 5, -6), 0,
                STOP, 1, 0, MIRROR, 5, -6, STOP, 2, 0);
        changed(two, 3, l -> l.put(0, 2, MIRROR, 5, -6), 0,
                STOP, 1, 0, STOP, 2, 0, MIRROR, 5, -6);
        Maker mirrors = one(MIRROR, 1, 2, MIRROR, 3, 4);
        changed(mirrors, 3, l -> l.put(0, 0, STOP, 9, 0), 0,
                STOP, 9, 0, MIRROR, 1, 2, MIRROR, 3, 4);
        changed(mirrors, 3, l -> l.put(0, 1, STOP, 9, 0), 0,
                MIRROR, 1, 2, STOP, 9, 0, MIRROR, 3, 4);
        sentence("how many there are. NONE (i, too)");
        edges(two, NONE, 0, 3, 2, 3, (l, n) -> l.put(0, n, STRETCH, 1, 0));
        edges(EMPTY, NONE, 0, 1, 0, 1, (l, n) -> l.put(0, n, STRETCH, 1, 0));
        Maker seven = stretches(7);
        edges(seven, NONE, 0, 8, 7, 8, (l, n) -> l.put(0, n, STOP, 1, 0));
        changed(seven, 8, l -> l.put(0, 7, STOP, 9, 0), 0, 0, 1, 0, 0, 2, 0, 0, 3, 0, 0, 4, 0,
                0, 5, 0, 0, 6, 0, 0, 7, 0, STOP, 9, 0);
        changed(seven, 8, l -> l.put(0, 0, STOP, 9, 0), 0, STOP, 9, 0, 0, 1, 0, 0, 2, 0, 0, 3, 0,
                0, 4, 0, 0, 5, 0, 0, 6, 0, 0, 7, 0);
    }

    /** Stretches of 1, 2, .. */
    private static Maker stretches(int n) {
        int[] parts = new int[3 * n];
        for (int k = 0; k < n; k++) {
            parts[3 * k + 1] = k + 1;
        }
        return one(parts);
    }

    private static void kinds() {
        sentence("KINDS: 0 STRETCH .. 4 STOP");
        edges(EMPTY, BAD, 0, 1, 4, 1, (l, n) -> l.put(0, 0, n, 1, 0));
        due(1, EMPTY.make().put(0, 0, LENS, 1, 0));
        due(1, EMPTY.make().put(0, 0, MIRROR, 1, 1));
        due(1, EMPTY.make().put(0, 0, TILT, 1, 0));
        sentence("0 STRETCH of a length a (0 .. 20)");
        taken(STRETCH, 0, 0);
        taken(STRETCH, 20, 0);
        badBeyond(STRETCH, 0, 20);
        sentence("1 LENS of a (-9 .. 9, not 0)");
        taken(LENS, -9, 0);
        taken(LENS, -1, 0);
        bad(LENS, 0, 0);
        taken(LENS, 1, 0);
        taken(LENS, 9, 0);
        badBeyond(LENS, -9, 9);
        sentence("3 TILT by a (-3 .. 3)");
        changed(EMPTY, 1, l -> l.put(0, 0, TILT, -3, 0), 0, TILT, -3, 0);
        changed(EMPTY, 1, l -> l.put(0, 0, TILT, 0, 0), 0, TILT, 0, 0);
        changed(EMPTY, 1, l -> l.put(0, 0, TILT, 3, 0), 0, TILT, 3, 0);
        refusedBeyond(EMPTY, BAD, -3, 3, (l, n) -> l.put(0, 0, TILT, n, 0));
        edges(one(TILT, 1, 0), BAD, -3, 0, 3, 0, (l, n) -> l.set(0, 0, n, 0));
        changed(one(TILT, 1, 0), 0, l -> l.set(0, 0, 0, 0), 0, TILT, 0, 0);
        sentence("4 STOP of a (1 .. 1000)");
        taken(STOP, 1, 0);
        taken(STOP, 1000, 0);
        badBeyond(STOP, 1, 1000);
    }

    private static void badBeyond(int kind, int low, int high) {
        for (int a : new int[] {Integer.MIN_VALUE, low - 1, high + 1, Integer.MAX_VALUE}) {
            bad(kind, a, 0);
        }
    }

    private static void mirrors() {
        sentence("2 MIRROR of a for WAY 0, b for WAY 1 (each -9 .. 9, not 0)");
        for (int strength : new int[] {-9, -1, 1, 9}) {
            taken(MIRROR, strength, 4);
            taken(MIRROR, 4, strength);
        }
        for (int strength : new int[] {Integer.MIN_VALUE, -10, 0, 10, Integer.MAX_VALUE}) {
            bad(MIRROR, strength, 4);
            bad(MIRROR, 4, strength);
            bad(MIRROR, strength, strength);
        }
        sentence("b is 0 but for MIRRORS: else BAD");
        for (int kind : new int[] {STRETCH, LENS, STOP}) {
            for (int b : new int[] {Integer.MIN_VALUE, -1, 1, 2, Integer.MAX_VALUE}) {
                bad(kind, 2, b);
            }
        }
        edges(EMPTY, BAD, 0, 1, 0, 1, (l, n) -> l.put(0, 0, TILT, 2, n));
        edges(one(TILT, 1, 0), BAD, 0, 0, 0, 0, (l, n) -> l.set(0, 0, 2, n));
    }

    private static void eightParts() {
        sentence("each a row of PARTS, 8 at most; FULL: 8");
        LightRound light = EMPTY.make();
        for (int k = 1; k <= 8; k++) {
            due(k, light.put(0, k - 1, STRETCH, k, 0));
        }
        due(FULL, light.put(0, 8, STRETCH, 9, 0));
        due(FULL, light.put(0, 0, STRETCH, 9, 0));
        due(8, light.count(1));
        Maker eight = stretches(8);
        for (int i = 0; i <= 8; i++) {
            int at = i;
            asked(eight, FULL, l -> l.put(0, at, STRETCH, 1, 0));
        }
        asked(eight, FULL, l -> l.put(0, 0, LENS, 1, 0));
        asked(eight, FULL, l -> l.put(0, 0, MIRROR, 1, 1));
        asked(eight, FULL, l -> l.put(0, 0, TILT, 1, 0));
        asked(eight, FULL, l -> l.put(0, 0, STOP, 1, 0));
        LightRound again = eight.make();
        due(STRETCH, again.take(0, 7));
        due(8, again.put(0, 0, STOP, 1, 0));
        due(FULL, again.put(0, 0, STOP, 1, 0));
        LightRound others = of(row(STOP, 1, 0, STOP, 1, 0, STOP, 1, 0, STOP, 1, 0, STOP, 1, 0,
                STOP, 1, 0, STOP, 1, 0, STOP, 1, 0), row()).make();
        due(1, others.put(1, 0, STOP, 1, 0));
    }

    private static void tooManyOfAKind() {
        sentence("LENSES and MIRRORS together are 3 at most on a BENCH; FULL: too many");
        int[][] pairs = {row(LENS, 1, 0, LENS, 2, 0), row(LENS, 1, 0, MIRROR, 2, 2),
            row(MIRROR, 1, 1, LENS, 2, 0), row(MIRROR, 1, 1, MIRROR, 2, 2)};
        for (int[] pair : pairs) {
            for (int third = LENS; third <= MIRROR; third++) {
                int b = third == MIRROR ? 3 : 0;
                due(3, one(pair).make().put(0, 1, third, 3, b));
                Maker three = one(pair[0], pair[1], pair[2], pair[3], pair[4], pair[5],
                        third, 3, b);
                asked(three, FULL, l -> l.put(0, 0, LENS, 1, 0));
                asked(three, FULL, l -> l.put(0, 3, MIRROR, 1, 1));
                due(4, three.make().put(0, 0, TILT, 1, 0));
                due(4, three.make().put(0, 0, STRETCH, 1, 0));
                due(4, three.make().put(0, 0, STOP, 1, 0));
            }
        }
        sentence("LENSES and MIRRORS 3 at most: one taken makes room for one of either kind");
        LightRound light = one(LENS, 1, 0, MIRROR, 2, 2, LENS, 3, 0).make();
        due(MIRROR, light.take(0, 1));
        due(3, light.put(0, 2, LENS, 4, 0));
        due(FULL, light.put(0, 2, MIRROR, 4, 4));
        due(LENS, light.take(0, 0));
        due(3, light.put(0, 0, MIRROR, 4, 4));
        due(FULL, light.put(0, 0, LENS, 4, 0));
        sentence("TILTS 2; FULL: too many of the KIND");
        Maker two = one(TILT, 1, 0, TILT, 0, 0);
        due(2, one(TILT, 1, 0).make().put(0, 1, TILT, 2, 0));
        asked(two, FULL, l -> l.put(0, 0, TILT, 1, 0));
        asked(two, FULL, l -> l.put(0, 2, TILT, 0, 0));
        due(3, two.make().put(0, 0, LENS, 1, 0));
        due(3, two.make().put(0, 0, STOP, 1, 0));
        LightRound tilts = two.make();
        due(TILT, tilts.take(0, 0));
        due(2, tilts.put(0, 0, TILT, 3, 0));
        sentence("3 at most on a BENCH, TILTS 2: of each BENCH by itself");
        LightRound both = of(row(LENS, 1, 0, LENS, 1, 0, LENS, 1, 0, TILT, 1, 0, TILT, 1, 0),
                row()).make();
        due(1, both.put(1, 0, LENS, 1, 0));
        due(2, both.put(1, 0, TILT, 1, 0));
    }

    private static void take() {
        sentence("A PART goes: its KIND");
        int[] all = {STRETCH, 5, 0, LENS, -5, 0, MIRROR, 5, -5, TILT, 2, 0, STOP, 5, 0};
        for (int i = 0; i < 5; i++) {
            int at = i;
            int[] rest = new int[12];
            System.arraycopy(all, 0, rest, 0, 3 * i);
            System.arraycopy(all, 3 * i + 3, rest, 3 * i, 12 - 3 * i);
            changed(one(all), i, l -> l.take(0, at), 0, rest);
        }
        sentence("A PART goes: the last one of a BENCH, and the first and last one of a full one");
        changed(one(STOP, 5, 0), STOP, l -> l.take(0, 0), 0);
        changed(stretches(8), STRETCH, l -> l.take(0, 0), 0, 0, 2, 0, 0, 3, 0, 0, 4, 0, 0, 5, 0,
                0, 6, 0, 0, 7, 0, 0, 8, 0);
        changed(stretches(8), STRETCH, l -> l.take(0, 7), 0, 0, 1, 0, 0, 2, 0, 0, 3, 0, 0, 4, 0,
                0, 5, 0, 0, 6, 0, 0, 7, 0);
        LightRound light = stretches(1).make();
        due(STRETCH, light.take(0, 0));
        due(NONE, light.take(0, 0));
        due(1, light.count(0));
        due(0, light.count(1));
        due(1, light.put(0, 0, TILT, 1, 0));
    }

    private static void set() {
        sentence("a and b of a PART become others: 0 (also the same ones, also on a full BENCH)");
        asked(one(MIRROR, 3, -4), 0, l -> l.set(0, 0, 3, -4));
        changed(laden(), 0, l -> l.set(0, 5, 9, 0), 0, STRETCH, 2, 0, LENS, 4, 0, MIRROR, 5, 6,
                TILT, 1, 0, STOP, 30, 0, LENS, 9, 0, TILT, -2, 0, STRETCH, 3, 0);
        changed(laden(), 0, l -> l.set(0, 2, -1, 1), 0, STRETCH, 2, 0, LENS, 4, 0, MIRROR, -1, 1,
                TILT, 1, 0, STOP, 30, 0, LENS, -7, 0, TILT, -2, 0, STRETCH, 3, 0);
        sentence("set, BAD: by the KIND of the PART, not of another");
        asked(one(STOP, 5, 0), 0, l -> l.set(0, 0, 5, 0));
        asked(one(STRETCH, 5, 0, STOP, 5, 0), BAD, l -> l.set(0, 0, 1000, 0));
        asked(one(STOP, 5, 0, STRETCH, 5, 0), BAD, l -> l.set(0, 0, 0, 0));
        asked(one(LENS, 5, 0, MIRROR, 5, 5), BAD, l -> l.set(0, 0, 5, 5));
        asked(one(LENS, 5, 0, MIRROR, 5, 5), BAD, l -> l.set(0, 1, 5, 0));
        asked(one(TILT, 3, 0, LENS, 5, 0), BAD, l -> l.set(0, 0, 5, 0));
        asked(one(TILT, 3, 0, LENS, 5, 0), BAD, l -> l.set(0, 1, 0, 0));
    }

    private static void turn() {
        sentence("All PARTS stand the other way round (the last one first): how many");
        asked(EMPTY, 0, l -> l.turn(0));
        asked(one(MIRROR, 4, 5), 1, l -> l.turn(0));
        changed(one(STOP, 1, 0, LENS, 2, 0), 2, l -> l.turn(0), 0, LENS, 2, 0, STOP, 1, 0);
        changed(stretches(3), 3, l -> l.turn(0), 0, 0, 3, 0, 0, 2, 0, 0, 1, 0);
        changed(stretches(8), 8, l -> l.turn(0), 0, 0, 8, 0, 0, 7, 0, 0, 6, 0, 0, 5, 0,
                0, 4, 0, 0, 3, 0, 0, 2, 0, 0, 1, 0);
        sentence("each by itself stays as it is");
        changed(one(MIRROR, 4, -5, STRETCH, 1, 0), 2, l -> l.turn(0), 0,
                STRETCH, 1, 0, MIRROR, 4, -5);
        sentence("All PARTS of the one BENCH, no other one's");
        LightRound light = laden().make();
        due(3, light.turn(1));
        dueRow(light, 3, LENS, 4, 0);
        dueRow(light, 0, STRETCH, 2, 0, LENS, 4, 0, MIRROR, 5, 6, TILT, 1, 0, STOP, 30, 0,
                LENS, -7, 0, TILT, -2, 0, STRETCH, 3, 0);
        due(3, light.turn(1));
        dueRow(light, 1, STRETCH, 4, 0, MIRROR, 3, -3, TILT, 1, 0);
    }

    private static void join() {
        sentence("All PARTS of other come behind those of bench; other stays: how many");
        LightRound light = of(row(LENS, 1, 0), row(MIRROR, 2, 3, STOP, 4, 0)).make();
        due(3, light.join(0, 1));
        dueRow(light, 0, LENS, 1, 0, MIRROR, 2, 3, STOP, 4, 0);
        dueRow(light, 1, MIRROR, 2, 3, STOP, 4, 0);
        sentence("other may be bench: once more");
        changed(one(LENS, 1, 0, TILT, 2, 0), 4, l -> l.join(0, 0), 0,
                LENS, 1, 0, TILT, 2, 0, LENS, 1, 0, TILT, 2, 0);
        asked(EMPTY, 0, l -> l.join(0, 0));
        changed(stretches(4), 8, l -> l.join(0, 0), 0, 0, 1, 0, 0, 2, 0, 0, 3, 0, 0, 4, 0,
                0, 1, 0, 0, 2, 0, 0, 3, 0, 0, 4, 0);
        asked(stretches(5), FULL, l -> l.join(0, 0));
        asked(stretches(8), FULL, l -> l.join(0, 0));
        asked(one(LENS, 1, 0, MIRROR, 1, 1), FULL, l -> l.join(0, 0));
        asked(one(TILT, 1, 0, TILT, 1, 0), FULL, l -> l.join(0, 0));
        sentence("join with a BENCH without PARTS: nothing comes, to a full one too");
        asked(laden(), 8, l -> l.join(0, 2));
        changed(laden(), 8, l -> l.join(2, 0), 2, STRETCH, 2, 0, LENS, 4, 0, MIRROR, 5, 6,
                TILT, 1, 0, STOP, 30, 0, LENS, -7, 0, TILT, -2, 0, STRETCH, 3, 0);
    }

    private static void joinFull() {
        sentence("join, FULL: 8");
        Maker few = of(row(0, 1, 0, 0, 2, 0, 0, 3, 0, 0, 4, 0, 0, 5, 0, 0, 6, 0),
                row(STOP, 1, 0, STOP, 2, 0), row(STOP, 1, 0, STOP, 2, 0, STOP, 3, 0));
        due(8, few.make().join(0, 1));
        due(8, few.make().join(1, 0));
        asked(few, FULL, l -> l.join(0, 2));
        asked(few, FULL, l -> l.join(2, 0));
        sentence("join, FULL: too many LENSES and MIRRORS together");
        Maker bends = of(row(LENS, 1, 0, MIRROR, 1, 1), row(MIRROR, 2, 2), row(LENS, 2, 0),
                row(LENS, 3, 0, LENS, 4, 0));
        due(3, bends.make().join(0, 1));
        due(3, bends.make().join(0, 2));
        due(3, bends.make().join(1, 0));
        due(2, bends.make().join(1, 2));
        due(2, bends.make().join(2, 2));
        asked(bends, FULL, l -> l.join(0, 3));
        asked(bends, FULL, l -> l.join(3, 0));
        asked(bends, FULL, l -> l.join(3, 3));
        sentence("join, FULL: too many TILTS");
        Maker tilts = of(row(TILT, 1, 0), row(TILT, 2, 0), row(TILT, 1, 0, TILT, 2, 0));
        due(2, tilts.make().join(0, 1));
        due(2, tilts.make().join(0, 0));
        asked(tilts, FULL, l -> l.join(0, 2));
        asked(tilts, FULL, l -> l.join(2, 0));
        asked(tilts, FULL, l -> l.join(2, 2));
        sentence("join: 8 with all there may be of each KIND");
        Maker all = of(row(LENS, 1, 0, TILT, 1, 0, STOP, 1, 0, STRETCH, 1, 0),
                row(MIRROR, 1, 1, LENS, 2, 0, TILT, 2, 0, STRETCH, 2, 0));
        changed(all, 8, l -> l.join(0, 1), 0, LENS, 1, 0, TILT, 1, 0, STOP, 1, 0, STRETCH, 1, 0,
                MIRROR, 1, 1, LENS, 2, 0, TILT, 2, 0, STRETCH, 2, 0);
    }

    public static void main(String[] args) {
        newObject();
        benches();
        whereAPartComes();
        kinds();
        mirrors();
        eightParts();
        tooManyOfAKind();
        take();
        set();
        turn();
        join();
        joinFull();
        end();
    }
}
