/** The boundaries that the document names for rounds: promises 15 to 20. */
public final class RoundBoundaryTests extends Checks {
    private static final int HOLDS = 0, EDGE = 1, LEAVES = 2;
    private static final Maker EMPTY = one();
    private static final Maker STILL = one(STRETCH, 0, 0, STOP, 5, 0);
    // Rounds whose T is next to 2 and -2: 2 - 1/392, 2 + 1/504, -2 + 1/504, -2 - 1/648.
    private static final Maker UNDER_TWO = one(TILT, 3, 0, STRETCH, 11, 0, LENS, -7, 0,
            STRETCH, 7, 0, LENS, 8, 0, STRETCH, 12, 0, LENS, -7, 0, TILT, -2, 0);
    private static final Maker OVER_TWO = one(TILT, 3, 0, STRETCH, 6, 0, LENS, 8, 0,
            STRETCH, 12, 0, LENS, -9, 0, STRETCH, 17, 0, LENS, -7, 0, TILT, -2, 0);
    private static final Maker OVER_MINUS_TWO = one(TILT, 3, 0, STRETCH, 7, 0, LENS, 8, 0,
            STRETCH, 10, 0, LENS, 7, 0, STRETCH, 8, 0, LENS, 9, 0, TILT, -2, 0);
    private static final Maker UNDER_MINUS_TWO = one(TILT, 3, 0, STRETCH, 13, 0, LENS, 9, 0,
            STRETCH, 10, 0, LENS, 8, 0, STRETCH, 5, 0, LENS, -9, 0, TILT, -2, 0);
    // (1, 0, 0, 1) and (-1, 0, 0, -1) of parts that each change a ray.
    private static final Maker AS_NONE = one(STRETCH, 3, 0, LENS, 1, 0, STRETCH, 3, 0,
            LENS, 1, 0, STRETCH, 3, 0, LENS, 1, 0);
    private static final Maker UPSIDE_DOWN = one(STRETCH, 2, 0, LENS, 1, 0, STRETCH, 2, 0,
            LENS, 1, 0);

    private static void dueRound(Maker maker, int want) {
        asked(maker, want, l -> l.round(0, 0));
        asked(maker, want, l -> l.round(0, 1));
    }

    private static void dueTrace(Maker maker, long above, long below) {
        asked(maker, above, l -> l.trace(0, 0, 0));
        asked(maker, below, l -> l.trace(0, 0, 1));
    }

    private static void holds() {
        sentence("It HOLDS if T lies between -2 and 2");
        dueRound(UNDER_TWO, HOLDS);
        dueRound(OVER_MINUS_TWO, HOLDS);
        dueRound(one(STRETCH, 1, 0, LENS, 9, 0), HOLDS);
        dueRound(one(STRETCH, 19, 0, LENS, 5, 0), HOLDS);
        dueRound(one(STRETCH, 18, 0, LENS, 9, 0), HOLDS);
        sentence("it LEAVES if T lies beyond");
        dueRound(OVER_TWO, LEAVES);
        dueRound(UNDER_MINUS_TWO, LEAVES);
        dueRound(one(STRETCH, 1, 0, LENS, -9, 0), LEAVES);
        dueRound(one(STRETCH, 17, 0, LENS, 4, 0), LEAVES);
        dueRound(one(STRETCH, 20, 0, LENS, 1, 0), LEAVES);
        dueRound(one(STRETCH, 20, 0, LENS, -1, 0), LEAVES);
        sentence("or if A and D are both 1, and B and C 0 (without PARTS it changes no RAY)");
        dueRound(EMPTY, HOLDS);
        dueRound(STILL, HOLDS);
        dueRound(one(TILT, 3, 0), HOLDS);
        dueRound(one(LENS, 2, 0, LENS, -2, 0), HOLDS);
        dueRound(AS_NONE, HOLDS);
        sentence("or both -1, and B and C 0");
        dueRound(UPSIDE_DOWN, HOLDS);
        dueRound(one(STRETCH, 1, 0, LENS, 1, 0, STRETCH, 1, 0, LENS, 1, 0, STRETCH, 1, 0,
                LENS, 1, 0), HOLDS);
        sentence("T tells it by the WAY");
        Maker mirror = one(STRETCH, 4, 0, MIRROR, 1, 2);
        asked(mirror, EDGE, l -> l.round(0, 0));
        asked(mirror, HOLDS, l -> l.round(0, 1));
    }

    private static void edge() {
        sentence("it is at the EDGE if T is 2 else: A and D both 1, but B, or C, is not 0");
        dueRound(one(STRETCH, 1, 0), EDGE);
        dueRound(one(STRETCH, 20, 0), EDGE);
        dueRound(one(LENS, 9, 0), EDGE);
        dueRound(one(LENS, -9, 0), EDGE);
        sentence("it is at the EDGE if T is -2 else: A and D both -1, but B, or C, is not 0");
        dueRound(one(LENS, 1, 0, STRETCH, 2, 0, LENS, 1, 0), EDGE);
        dueRound(one(STRETCH, 2, 0, LENS, 1, 0, STRETCH, 2, 0), EDGE);
        sentence("it is at the EDGE if T is -2 or 2 else: A is not D");
        dueRound(one(STRETCH, 20, 0, LENS, 5, 0), EDGE);
        dueRound(one(STRETCH, 4, 0, LENS, 1, 0), EDGE);
        dueRound(one(STRETCH, 8, 0, LENS, 2, 0, STRETCH, 8, 0, LENS, 2, 0), EDGE);
        sentence("it is at the EDGE: one length more, or less, and it is not");
        LightRound light = one(STRETCH, 16, 0, LENS, 4, 0).make();
        due(EDGE, light.round(0, 0));
        due(0, light.set(0, 0, 15, 0));
        due(HOLDS, light.round(0, 0));
        due(0, light.set(0, 0, 17, 0));
        due(LEAVES, light.round(0, 0));
        due(0, light.set(0, 0, 0, 0));
        due(EDGE, light.round(0, 0));
        due(0, light.set(0, 0, 1, 0));
        due(HOLDS, light.round(0, 0));
        due(0, light.set(0, 1, -4, 0));
        due(LEAVES, light.round(0, 0));
    }

    private static void trace() {
        sentence("T: A + D of its TABLE");
        dueTrace(EMPTY, 2, 1);
        dueTrace(STILL, 2, 1);
        dueTrace(UPSIDE_DOWN, -2, 1);
        dueTrace(UNDER_TWO, 783, 392);
        dueTrace(OVER_TWO, 1009, 504);
        dueTrace(OVER_MINUS_TWO, -1007, 504);
        dueTrace(UNDER_MINUS_TWO, -1297, 648);
        dueTrace(one(STRETCH, 18, 0, LENS, 9, 0), 0, 1);
        dueTrace(one(STRETCH, 20, 0, STRETCH, 20, 0, LENS, -1, 0, STRETCH, 20, 0, LENS, -1, 0,
                TILT, 3, 0, STRETCH, 20, 0, LENS, -1, 0), 20242, 1);
        sentence("T (for each i alike)");
        int[] parts = {STRETCH, 3, 0, MIRROR, 5, -4, TILT, 1, 0, STRETCH, 7, 0, LENS, -6, 0,
            STOP, 9, 0, LENS, 7, 0, STRETCH, 2, 0};
        long above = one(parts).make().trace(0, 1, 0);
        long below = one(parts).make().trace(0, 1, 1);
        for (int i = 1; i < 8; i++) {
            int[] turned = new int[24];
            for (int k = 0; k < 24; k++) {
                turned[k] = parts[(k + 3 * i) % 24];
            }
            asked(one(turned), above, l -> l.trace(0, 1, 0));
            asked(one(turned), below, l -> l.trace(0, 1, 1));
        }
    }

    private static void dueTurns(Maker maker, int want) {
        asked(maker, want, l -> l.turns(0, 0));
        asked(maker, want, l -> l.turns(0, 1));
    }

    private static void turns() {
        sentence("TURNS: the least number of rounds, 1: those of no PARTS at all");
        dueTurns(EMPTY, 1);
        dueTurns(STILL, 1);
        dueTurns(AS_NONE, 1);
        dueTurns(one(LENS, 9, 0, LENS, -9, 0), 1);
        sentence("behind which A, B, C, D are (1, 0, 0, 1): a TILT, E and F, do not count");
        dueTurns(one(TILT, 3, 0), 1);
        dueTurns(one(TILT, 3, 0, STRETCH, 18, 0, LENS, 9, 0), 4);
        sentence("TURNS: the least number of rounds, 2, 3, 4, 6");
        dueTurns(UPSIDE_DOWN, 2);
        dueTurns(one(STRETCH, 9, 0, LENS, 3, 0), 3);
        dueTurns(one(STRETCH, 18, 0, LENS, 9, 0), 4);
        dueTurns(one(STRETCH, 9, 0, LENS, 9, 0), 6);
        dueTurns(one(LENS, 1, 0, STRETCH, 1, 0), 6);
        sentence("0 if there is none: it HOLDS, but never comes back");
        dueTurns(UNDER_TWO, 0);
        dueTurns(OVER_MINUS_TWO, 0);
        dueTurns(one(STRETCH, 8, 0, LENS, 9, 0), 0);
        dueTurns(one(STRETCH, 10, 0, LENS, 9, 0), 0);
        dueTurns(one(STRETCH, 17, 0, LENS, 9, 0), 0);
        dueTurns(one(STRETCH, 19, 0, LENS, 9, 0), 0);
        sentence("0 if there is none: at the EDGE");
        dueTurns(one(STRETCH, 1, 0), 0);
        dueTurns(one(LENS, -9, 0), 0);
        dueTurns(one(STRETCH, 4, 0, LENS, 1, 0), 0);
        dueTurns(one(LENS, 1, 0, STRETCH, 2, 0, LENS, 1, 0), 0);
        dueTurns(one(STRETCH, 2, 0, LENS, 1, 0, STRETCH, 2, 0), 0);
        dueTurns(one(STRETCH, 8, 0, LENS, 2, 0, STRETCH, 8, 0, LENS, 2, 0), 0);
        sentence("0 if there is none: it LEAVES");
        dueTurns(OVER_TWO, 0);
        dueTurns(UNDER_MINUS_TWO, 0);
        dueTurns(one(STRETCH, 5, 0, LENS, 1, 0), 0);
        dueTurns(one(STRETCH, 1, 0, LENS, -1, 0), 0);
        sentence("TURNS by the WAY");
        Maker mirror = one(STRETCH, 2, 0, MIRROR, 1, 2);
        asked(mirror, 4, l -> l.turns(0, 0));
        asked(mirror, 6, l -> l.turns(0, 1));
    }

    /** Of the part WIDE and BEND, each as what is above and what is below. */
    private static void dueBeam(Maker maker, int way, int i, long... fractions) {
        for (int k = 0; k < fractions.length; k++) {
            int at = k;
            asked(maker, fractions[k], l -> l.beam(0, way, i, at / 2, at % 2));
        }
    }

    private static void noBeam(Maker maker, int parts) {
        for (int i = 0; i < parts; i++) {
            dueBeam(maker, 0, i, NO, NO, NO, NO);
            dueBeam(maker, 1, i, NO, NO, NO, NO);
        }
        asked(maker, NONE, l -> l.waist(0, 0));
        asked(maker, NONE, l -> l.waist(0, 1));
    }

    private static void beam() {
        sentence("THE BEAM at PART i: WIDE is 4 B B by (4 - T T), BEND is D - A by 2 B");
        dueBeam(one(STRETCH, 2, 0, LENS, 3, 0, STRETCH, 2, 0), 0, 0, 8, 1, 0, 1);
        dueBeam(one(STRETCH, 2, 0, LENS, 3, 0, STRETCH, 2, 0), 0, 1, 18, 1, 1, 6);
        dueBeam(one(STRETCH, 2, 0, LENS, 3, 0, STRETCH, 2, 0), 0, 2, 18, 1, -1, 6);
        sentence("THE BEAM: below above 0, with a B under 0 too");
        Maker under = one(STRETCH, 3, 0, LENS, 1, 0, STRETCH, 3, 0, LENS, 1, 0);
        dueBeam(under, 0, 0, 12, 1, -1, 2);
        dueBeam(under, 0, 3, 12, 1, 1, 2);
        sentence("THE BEAM (T between -2 and 2): next to 2");
        dueBeam(UNDER_TWO, 0, 0, 164454976, 1567, 223, 12824);
        dueBeam(UNDER_TWO, 0, 4, 6484758784L, 1567, 6033, 80528);
        dueBeam(UNDER_TWO, 0, 7, 164454976, 1567, 223, 12824);
        sentence("THE BEAM (T between -2 and 2): next to -2");
        dueBeam(OVER_MINUS_TWO, 1, 1, 6480, 403, 7, 36);
        dueBeam(OVER_MINUS_TWO, 1, 2, 2408704, 2015, 161, 1552);
        dueBeam(OVER_MINUS_TWO, 1, 6, 6480, 403, 11, 36);
        sentence("NO, NONE: also without T between -2 and 2: beyond");
        noBeam(OVER_TWO, 8);
        noBeam(UNDER_MINUS_TWO, 8);
        sentence("NO, NONE: also without T between -2 and 2: 2 and -2, at the EDGE");
        noBeam(one(STRETCH, 20, 0), 1);
        noBeam(one(LENS, 9, 0), 1);
        noBeam(one(STRETCH, 20, 0, LENS, 5, 0), 2);
        noBeam(one(LENS, 1, 0, STRETCH, 2, 0, LENS, 1, 0), 3);
        sentence("NO, NONE: also without T between -2 and 2: 2 and -2, though it HOLDS");
        noBeam(STILL, 2);
        noBeam(AS_NONE, 6);
        noBeam(UPSIDE_DOWN, 4);
        noBeam(one(TILT, 3, 0), 1);
        noBeam(EMPTY, 1);
        sentence("THE BEAM of one WAY alone");
        Maker mirror = one(STRETCH, 2, 0, MIRROR, 3, -3, STRETCH, 2, 0);
        dueBeam(mirror, 0, 0, 8, 1, 0, 1);
        dueBeam(mirror, 1, 0, NO, NO, NO, NO);
    }

    private static void roundFromEachPart() {
        sentence("THE ROUND from PART i: to the end and on from PART 0 to ahead of i (BEAM)");
        long[][] beams = {{781456, 74175, 43, 884}, {78400, 2967, 43, 280},
            {78400, 2967, -27, 280}, {78400, 2967, -83, 280}, {78400, 2967, -83, 280},
            {78400, 2967, -83, 280}, {78400, 2967, -43, 280}, {78400, 2967, -43, 280}};
        for (int i = 0; i < 8; i++) {
            dueBeam(laden(), 0, i, beams[i]);
        }
        sentence("THE ROUND from PART i: to the end and on from PART 0 to ahead of i (AXIS)");
        long[][] axes = {{0, 1}, {0, 1}, {21, 23}, {35, 23}, {58, 23}, {58, 23}, {2, 1}, {0, 1}};
        for (int i = 0; i < 8; i++) {
            dueAxis(laden(), 1, i, -84, 23, axes[i][0], axes[i][1]);
        }
    }

    private static void waist() {
        sentence("the PART at which WIDE is least, the first one of several: next to one another");
        asked(one(STRETCH, 1, 0, LENS, 2, 0, STRETCH, 6, 0, STRETCH, 3, 0, LENS, 2, 0,
                STRETCH, 3, 0, MIRROR, 6, -6, STRETCH, 2, 0), 6, l -> l.waist(0, 0));
        sentence("the first one of several: apart from one another");
        Maker apart = one(MIRROR, 3, 9, LENS, -7, 0, STRETCH, 3, 0, STRETCH, 1, 0, LENS, 8, 0,
                STRETCH, 1, 0, STRETCH, 2, 0, STRETCH, 1, 0);
        asked(apart, 3, l -> l.waist(0, 0));
        asked(apart, 0, l -> l.waist(0, 1));
        sentence("the first one of several: the first and the last PART");
        Maker wrap = one(STRETCH, 1, 0, STRETCH, 1, 0, MIRROR, 7, 4, STRETCH, 5, 0,
                MIRROR, 5, -5, STRETCH, 3, 0, STRETCH, 6, 0, LENS, -6, 0);
        asked(wrap, 0, l -> l.waist(0, 0));
        asked(wrap, 4, l -> l.waist(0, 1));
        sentence("the first one of several: all alike");
        asked(one(STRETCH, 4, 0, LENS, 3, 0, STOP, 1, 0), 0, l -> l.waist(0, 0));
        asked(one(LENS, 3, 0, STOP, 1, 0, STRETCH, 4, 0), 0, l -> l.waist(0, 0));
        sentence("the PART at which WIDE is least: the last one");
        Maker last = one(STRETCH, 2, 0, LENS, 8, 0, STRETCH, 1, 0, STRETCH, 5, 0, LENS, -7, 0,
                MIRROR, 7, -9, STRETCH, 7, 0, STRETCH, 6, 0);
        asked(last, 7, l -> l.waist(0, 0));
        asked(last, 4, l -> l.waist(0, 1));
        sentence("the PART at which WIDE is least: each one in turn");
        LightRound turned = one(STOP, 9, 0, STRETCH, 3, 0, LENS, 4, 0, STRETCH, 3, 0).make();
        for (int i = 0; i < 3; i++) {
            due(i, turned.waist(0, 0));
            int kind = turned.part(0, 3, 0);
            int a = turned.part(0, 3, 1);
            due(kind, turned.take(0, 3));
            due(4, turned.put(0, 0, kind, a, 0));
        }
        sentence("the first one of several: the STOP is PART 3 now, PART 0 is as near");
        due(0, turned.waist(0, 0));
        sentence("WAIST with T next to 2 and to -2");
        asked(UNDER_TWO, 0, l -> l.waist(0, 0));
        asked(OVER_MINUS_TWO, 0, l -> l.waist(0, 0));
        sentence("NONE: also without THE BEAM, of one WAY alone");
        Maker mirror = one(STRETCH, 2, 0, MIRROR, -3, 3, STRETCH, 2, 0);
        asked(mirror, NONE, l -> l.waist(0, 0));
        asked(mirror, 0, l -> l.waist(0, 1));
    }

    /** Of the part x and y of the axis, each as what is above and what is below. */
    private static void dueAxis(Maker maker, int way, int i, long... fractions) {
        for (int k = 0; k < fractions.length; k++) {
            int at = k;
            asked(maker, fractions[k], l -> l.axis(0, way, i, at / 2, at % 2));
        }
    }

    private static void axis() {
        sentence("NO: also if T is 2: at the EDGE, with a TILT or without");
        dueAxis(one(STRETCH, 5, 0), 0, 0, NO, NO, NO, NO);
        dueAxis(one(TILT, 2, 0, STRETCH, 5, 0), 0, 1, NO, NO, NO, NO);
        dueAxis(one(TILT, 2, 0, LENS, 5, 0), 0, 0, NO, NO, NO, NO);
        dueAxis(one(STRETCH, 8, 0, LENS, 2, 0, STRETCH, 8, 0, LENS, 2, 0), 1, 3, NO, NO, NO, NO);
        sentence("NO: also if T is 2: though it HOLDS, and every RAY is the same");
        dueAxis(STILL, 0, 0, NO, NO, NO, NO);
        dueAxis(AS_NONE, 0, 5, NO, NO, NO, NO);
        dueAxis(EMPTY, 0, 0, NO, NO, NO, NO);
        sentence("THE AXIS (T is not 2): next to 2");
        dueAxis(UNDER_TWO, 0, 0, 6412, 1, 109, 1);
        dueAxis(UNDER_TWO, 0, 4, 16072, 1, 1204, 1);
        dueAxis(UNDER_TWO, 0, 7, 6412, 1, 111, 1);
        dueAxis(OVER_TWO, 0, 0, -15246, 1, -2306, 1);
        dueAxis(OVER_TWO, 0, 7, -15246, 1, -2304, 1);
        sentence("THE AXIS (T is not 2): -2, at the EDGE and where it HOLDS");
        dueAxis(one(TILT, 2, 0, STRETCH, 4, 0, LENS, 1, 0), 0, 0, 2, 1, -2, 1);
        dueAxis(UPSIDE_DOWN, 0, 0, 0, 1, 0, 1);
        dueAxis(one(STRETCH, 2, 0, LENS, 1, 0, TILT, 3, 0, STRETCH, 2, 0, LENS, 1, 0), 0, 0,
                3, 1, -3, 2);
        sentence("THE AXIS (T is not 2): next to -2 and beyond");
        dueAxis(OVER_MINUS_TWO, 0, 0, -18, 403, -1011, 403);
        dueAxis(UNDER_MINUS_TWO, 0, 0, 639, 2593, -6744, 2593);
        dueAxis(UNDER_MINUS_TWO, 0, 7, 639, 2593, -1558, 2593);
        sentence("THE AXIS without TILTS is the line itself; 0 is 0 by 1");
        dueAxis(one(STRETCH, 5, 0, LENS, -3, 0), 0, 0, 0, 1, 0, 1);
        dueAxis(one(STRETCH, 5, 0, LENS, 3, 0), 1, 1, 0, 1, 0, 1);
        sentence("THE AXIS of one WAY alone");
        Maker mirrors = one(TILT, 1, 0, MIRROR, 1, -1, STRETCH, 1, 0, MIRROR, -1, -1);
        dueAxis(mirrors, 0, 0, NO, NO, NO, NO);
        dueAxis(mirrors, 1, 0, -1, 2, -1, 2);
    }

    public static void main(String[] args) {
        holds();
        edge();
        trace();
        turns();
        beam();
        roundFromEachPart();
        waist();
        axis();
        end();
    }
}
