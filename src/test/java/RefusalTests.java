/**
 * "REFUSALS, of several the first one told ... They change nothing": each call with each of its
 * numbers just inside and just outside of what there is, and which refusal is told ahead of which.
 */
public final class RefusalTests extends Checks {
    /** A call that names a bench, and what it answers if there is none such. */
    private record BenchCall(long refusal, NumberCall call) {
    }

    private static final BenchCall[] BENCH_CALLS = {
        new BenchCall(NONE, (l, n) -> l.put(n, 0, 0, 1, 0)),
        new BenchCall(NONE, (l, n) -> l.take(n, 0)),
        new BenchCall(NONE, (l, n) -> l.set(n, 0, 1, 0)),
        new BenchCall(NO_PART, (l, n) -> l.part(n, 0, 0)),
        new BenchCall(NONE, (l, n) -> l.turn(n)),
        new BenchCall(NONE, (l, n) -> l.join(n, 0)),
        new BenchCall(NONE, (l, n) -> l.join(0, n)),
        new BenchCall(NONE, (l, n) -> l.join(n, n)),
        new BenchCall(NO, (l, n) -> l.table(n, 0, 0, 0)),
        new BenchCall(NO, (l, n) -> l.ray(n, 0, 0, 0, 0, 0, 0)),
        new BenchCall(NONE, (l, n) -> l.stops(n, 0, 1000, 1000)),
        new BenchCall(NONE, (l, n) -> l.full(n, 0)),
        new BenchCall(NO, (l, n) -> l.image(n, 0, 0, 0)),
        new BenchCall(NONE, (l, n) -> l.same(n, 0, 0)),
        new BenchCall(NONE, (l, n) -> l.same(0, n, 0)),
        new BenchCall(NONE, (l, n) -> l.same(n, n, 0)),
        new BenchCall(NONE, (l, n) -> l.round(n, 0)),
        new BenchCall(NO, (l, n) -> l.trace(n, 0, 0)),
        new BenchCall(NONE, (l, n) -> l.turns(n, 0)),
        new BenchCall(NO, (l, n) -> l.beam(n, 0, 0, 0, 0)),
        new BenchCall(NONE, (l, n) -> l.waist(n, 0)),
        new BenchCall(NO, (l, n) -> l.axis(n, 0, 0, 0, 0)),
        new BenchCall(NONE, (l, n) -> l.span(n, 0, 0)),
        new BenchCall(NONE, (l, n) -> l.fit(n, 0)),
        new BenchCall(NONE, (l, n) -> l.swap(n, 0, 0)),
    };

    private static void noSuchBench() {
        sentence("NONE there is no such BENCH (none, one, four of them)");
        Maker none = owning(of(), 3);
        Maker single = owning(one(LENS, 4, 0), 3);
        for (BenchCall each : BENCH_CALLS) {
            refusedBeyond(none, each.refusal, 0, -1, each.call);
            refusedBeyond(single, each.refusal, 0, 0, each.call);
            refusedBeyond(laden(), each.refusal, 0, 3, each.call);
        }
    }

    private static void lastBench() {
        sentence("BENCHES are numbered from 0 on: the last one of four is taken");
        Maker laden = laden();
        changed(laden, 2, l -> l.put(3, 1, STOP, 8, 0), 3,
                LENS, 4, 0, STOP, 8, 0);
        changed(laden, LENS, l -> l.take(3, 0), 3);
        changed(laden, 0, l -> l.set(3, 0, -2, 0), 3, LENS, -2, 0);
        asked(laden, LENS, l -> l.part(3, 0, 0));
        asked(laden, 1, l -> l.turn(3));
        changed(laden, 2, l -> l.join(3, 3), 3, LENS, 4, 0, LENS, 4, 0);
        changed(laden, 1, l -> l.join(2, 3), 2, LENS, 4, 0);
        asked(laden, -1, l -> l.table(3, 0, 2, 0));
        asked(laden, 1000, l -> l.ray(3, 1, 1000, 0, 1, 0, 0));
        asked(laden, 1000, l -> l.full(3, 1));
        asked(laden, 0, l -> l.image(3, 0, 0, 0));
        asked(laden, 1, l -> l.same(3, 3, 1));
        asked(laden, 0, l -> l.same(2, 3, 1));
        asked(laden, 1, l -> l.round(3, 0));
        asked(laden, 2, l -> l.trace(3, 0, 0));
        asked(laden, 0, l -> l.turns(3, 0));
        asked(laden, NONE, l -> l.fit(3, 0));
        changed(laden, 4, l -> l.swap(3, 0, 0), 3, LENS, -9, 0);
    }

    private static void noSuchPart() {
        sentence("NONE there is no such PART");
        Maker laden = laden();
        edges(laden, NONE, 0, STRETCH, 7, STRETCH,
                (l, n) -> l.take(0, n));
        edges(laden, NONE, 0, 0, 7, 0, (l, n) -> l.set(0, n, 20, 0));
        edges(laden, NO_PART, 0, 2, 7, 3, (l, n) -> l.part(0, n, 1));
        edges(laden, NO, 0, 781456, 7, 78400, (l, n) -> l.beam(0, 0, n, 0, 0));
        edges(laden, NO, 0, -140, 7, -140, (l, n) -> l.axis(0, 0, n, 0, 0));
        edges(laden, NONE, 0, 10, 7, 10, (l, n) -> l.span(0, n, 10));
        edges(laden, NONE, 0, STATE, 7, STATE,
                (l, n) -> l.fit(0, n));
        edges(laden, NONE, 0, STATE, 7, STATE,
                (l, n) -> l.swap(0, n, 0));
        edges(laden, NONE, 0, NONE, 0, NONE, (l, n) -> l.fit(3, n));
        edges(laden, NONE, 0, 4, 0, 4, (l, n) -> l.swap(3, n, 11));
        sentence("NONE there is no such PART: a BENCH without PARTS has none");
        refusedBeyond(laden, NONE, 0, -1, (l, n) -> l.take(2, n));
        refusedBeyond(laden, NONE, 0, -1, (l, n) -> l.set(2, n, 1, 0));
        refusedBeyond(laden, NO_PART, 0, -1, (l, n) -> l.part(2, n, 0));
        refusedBeyond(laden, NO, 0, -1, (l, n) -> l.beam(2, 0, n, 0, 0));
        refusedBeyond(laden, NO, 0, -1, (l, n) -> l.axis(2, 0, n, 0, 0));
        refusedBeyond(laden, NONE, 0, -1, (l, n) -> l.span(2, n, 0));
        refusedBeyond(laden, NONE, 0, -1, (l, n) -> l.fit(2, n));
        refusedBeyond(laden, NONE, 0, -1, (l, n) -> l.swap(2, n, 0));
        sentence("NONE there is no such PART: one that was taken is none any more");
        LightRound light = laden.make();
        due(TILT, light.take(1, 2));
        due(NO_PART, light.part(1, 2, 0));
        due(NONE, light.take(1, 2));
        due(NONE, light.set(1, 2, 1, 0));
        due(NO, light.beam(1, 0, 2, 0, 0));
        due(NO, light.axis(1, 0, 2, 0, 0));
        due(NO, light.ray(1, 0, 0, 0, 3, 0, 0));
    }

    private static void noSuchWay() {
        sentence("NONE there is no such WAY");
        Maker laden = laden();
        edges(laden, NO, 0, -1, 1, 1, (l, n) -> l.table(1, n, 2, 0));
        edges(laden, NO, 0, -2, 1, 6, (l, n) -> l.ray(1, n, 4, 2, 2, 1, 0));
        edges(laden, NONE, 0, 4, 1, 4, (l, n) -> l.stops(0, n, 1000, 1000));
        edges(laden, NONE, 0, 15, 1, 15, (l, n) -> l.full(0, n));
        edges(laden, NO, 0, 12, 1, -12, (l, n) -> l.image(1, n, 0, 0));
        edges(laden, NONE, 0, 1, 1, 1, (l, n) -> l.same(1, 1, n));
        edges(laden, NONE, 0, 0, 1, 2, (l, n) -> l.round(1, n));
        edges(laden, NO, 0, 2, 1, 10, (l, n) -> l.trace(1, n, 0));
        edges(laden, NONE, 0, 1, 1, 1, (l, n) -> l.turns(2, n));
        edges(laden, NO, 0, 781456, 1, 318096, (l, n) -> l.beam(0, n, 0, 0, 0));
        edges(laden, NONE, 0, 0, 1, 0, (l, n) -> l.waist(0, n));
        edges(laden, NO, 0, 3, 1, -3, (l, n) -> l.axis(1, n, 0, 0, 0));
    }

    private static void noSuchNumber() {
        sentence("what 0 KIND, 1 a, 2 b. -100: none such");
        Maker laden = laden();
        edges(laden, NO_PART, 0, MIRROR, 2, 6, (l, n) -> l.part(0, 2, n));
        due(5, laden.make().part(0, 2, 1));
        sentence("entry 0 .. 5; above (0), below (1) the line. NO");
        edges(laden, NO, 0, 11, 5, -1, (l, n) -> l.table(0, 0, n, 0));
        edges(laden, NO, 0, 11, 1, 140, (l, n) -> l.table(0, 0, 0, n));
        sentence("x (entry 0), y (1). NO: none such");
        edges(laden, NO, 0, 22629, 1, 543,
                (l, n) -> l.ray(0, 0, 1000, 1000, 8, n, 0));
        edges(laden, NO, 0, 22629, 1, 7,
                (l, n) -> l.ray(0, 0, 1000, 1000, 8, 0, n));
        sentence("IMAGE: s (entry 0), SIZE (1). NO");
        edges(laden, NO, 0, -221, 1, 70, (l, n) -> l.image(0, 0, n, 0));
        edges(laden, NO, 0, -221, 1, 27, (l, n) -> l.image(0, 0, 0, n));
        sentence("T. NO");
        edges(laden, NO, 0, 13, 1, 28, (l, n) -> l.trace(0, 0, n));
        sentence("THE BEAM at a PART: WIDE (entry 0), BEND (1). NO");
        edges(laden, NO, 0, 781456, 1, 43, (l, n) -> l.beam(0, 0, 0, n, 0));
        edges(laden, NO, 0, 781456, 1, 74175, (l, n) -> l.beam(0, 0, 0, 0, n));
        sentence("THE AXIS at a PART: x (entry 0), y (1). NO");
        edges(laden, NO, 0, -140, 1, 35, (l, n) -> l.axis(0, 0, 2, n, 0));
        edges(laden, NO, 0, -140, 1, 43, (l, n) -> l.axis(0, 0, 2, 0, n));
        sentence("0 BENCHES, 1 PARTS of all, 2 lengths, 3 BENCHES that HOLD. NONE");
        edges(laden, NONE, 0, 4, 3, 2, (l, n) -> l.count(n));
        due(12, laden.make().count(1));
        due(12, laden.make().count(2));
    }

    private static void firstOneTold() {
        Maker laden = laden();
        sentence("put: NONE ahead of BAD ahead of FULL");
        asked(laden, NONE, l -> l.put(4, 0, 5, 99, 99));
        asked(laden, NONE, l -> l.put(-1, 9, 5, 99, 99));
        asked(laden, NONE, l -> l.put(0, 9, STRETCH, 21, 0));
        asked(laden, NONE, l -> l.put(0, -1, LENS, 4, 0));
        asked(laden, NONE, l -> l.put(0, 9, STRETCH, 1, 0));
        asked(laden, BAD, l -> l.put(0, 8, STRETCH, 21, 0));
        asked(laden, BAD, l -> l.put(0, 0, 5, 1, 0));
        asked(laden, BAD, l -> l.put(0, 0, LENS, 0, 0));
        asked(laden, BAD, l -> l.put(0, 0, MIRROR, 1, 0));
        asked(laden, BAD, l -> l.put(0, 0, TILT, 4, 0));
        asked(laden, BAD, l -> l.put(0, 0, STOP, 1, 1));
        asked(laden, FULL, l -> l.put(0, 8, STRETCH, 1, 0));
        sentence("set: NONE ahead of BAD");
        asked(laden, NONE, l -> l.set(4, 0, 99, 99));
        asked(laden, NONE, l -> l.set(0, 8, 99, 99));
        asked(laden, NONE, l -> l.set(2, 0, 99, 99));
        asked(laden, BAD, l -> l.set(0, 7, 99, 99));
        sentence("join: NONE ahead of FULL");
        asked(laden, NONE, l -> l.join(0, 4));
        asked(laden, NONE, l -> l.join(4, 0));
        asked(laden, FULL, l -> l.join(0, 3));
        sentence("own: BAD ahead of FULL");
        asked(laden, BAD, l -> l.own(0));
        asked(laden, BAD, l -> l.own(10));
        asked(laden, BAD, l -> l.own(-10));
        asked(laden, FULL, l -> l.own(9));
        sentence("span: NONE ahead of STATE");
        asked(laden, NONE, l -> l.span(4, 1, 0));
        asked(laden, NONE, l -> l.span(0, 8, 0));
        asked(laden, NONE, l -> l.span(0, 1, -1));
        asked(laden, NONE, l -> l.span(0, 1, Integer.MIN_VALUE));
        asked(laden, STATE, l -> l.span(0, 1, 0));
        sentence("fit: NONE ahead of STATE");
        asked(laden, NONE, l -> l.fit(4, 0));
        asked(laden, NONE, l -> l.fit(0, 8));
        asked(laden, STATE, l -> l.fit(0, 2));
        sentence("swap: NONE ahead of STATE");
        asked(laden, NONE, l -> l.swap(4, 0, 0));
        asked(laden, NONE, l -> l.swap(0, 8, 0));
        asked(laden, NONE, l -> l.swap(0, 0, 12));
        asked(laden, NONE, l -> l.swap(0, 2, -1));
        asked(laden, STATE, l -> l.swap(0, 2, 11));
    }

    private static void theConstants() {
        sentence("NONE = -1, BAD = -2, STATE = -3, FULL = -4; NO = Long.MIN_VALUE");
        due(-1, LightRound.NONE);
        due(-2, LightRound.BAD);
        due(-3, LightRound.STATE);
        due(-4, LightRound.FULL);
        due(Long.MIN_VALUE, LightRound.NO);
    }

    public static void main(String[] args) {
        noSuchBench();
        lastBench();
        noSuchPart();
        noSuchWay();
        noSuchNumber();
        firstOneTold();
        theConstants();
        end();
    }
}
