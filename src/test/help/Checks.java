import java.util.Arrays;

/** What the boundary tests extend: each tells the document's sentence it holds the class to. */
abstract class Checks {
    static final int NONE = -1, BAD = -2, STATE = -3, FULL = -4, NO_PART = -100;
    static final long NO = Long.MIN_VALUE;
    static final int STRETCH = 0, LENS = 1, MIRROR = 2, TILT = 3, STOP = 4;

    interface Maker {
        LightRound make();
    }

    interface Call {
        long of(LightRound light);
    }

    interface NumberCall {
        long of(LightRound light, int number);
    }

    private static String sentence = "";
    private static int wrong = 0;
    private static int asked = 0;

    static void sentence(String text) {
        sentence = text;
    }

    static void due(long want, long got) {
        asked++;
        if (got != want) {
            tell("answered " + got + ", due is " + want);
        }
    }

    private static void tell(String fault) {
        wrong++;
        // The row in the method that main called says which answer it is; helpers stand above it.
        StackTraceElement[] frames = new Throwable().getStackTrace();
        StackTraceElement row = frames[Math.max(0, frames.length - 2)];
        System.out.println("'" + sentence + "' (" + row.getFileName() + ":" + row.getLineNumber()
                + "): " + fault);
    }

    static int[] row(int... parts) {
        return parts;
    }

    /** Makes objects with benches of these parts, each given as kind, a, b, and an empty drawer. */
    static Maker of(int[]... rows) {
        return () -> {
            LightRound light = new LightRound();
            for (int bench = 0; bench < rows.length; bench++) {
                due(bench, light.bench());
                for (int k = 0; k + 2 < rows[bench].length; k += 3) {
                    due(k / 3 + 1, light.put(bench, k / 3, rows[bench][k], rows[bench][k + 1],
                            rows[bench][k + 2]));
                }
            }
            return light;
        };
    }

    /** Makes objects with one bench of these parts. */
    static Maker one(int... parts) {
        return of(parts);
    }

    static Maker owning(Maker maker, int... lengths) {
        return () -> {
            LightRound light = maker.make();
            for (int k = 0; k < lengths.length; k++) {
                due(k + 1, light.own(lengths[k]));
            }
            return light;
        };
    }

    /** Four benches, the first one full, the third one empty, and a full drawer. */
    static Maker laden() {
        return owning(of(
                row(STRETCH, 2, 0, LENS, 4, 0, MIRROR, 5, 6, TILT, 1, 0, STOP, 30, 0,
                        LENS, -7, 0, TILT, -2, 0, STRETCH, 3, 0),
                row(STRETCH, 4, 0, MIRROR, 3, -3, TILT, 1, 0),
                row(),
                row(LENS, 4, 0)), -9, 9, 1, -1, 5, 5, 3, 4, 2, 6, 7, 8);
    }

    /** The call answers this, and leaves the object as it was; a new object for each call. */
    static void asked(Maker maker, long want, Call call) {
        LightRound light = maker.make();
        due(want, call.of(light));
        if (!Arrays.equals(seen(light), seen(maker.make()))) {
            tell("the call changed the object");
        }
    }

    /** The call answers this, and the row of the bench becomes this one. */
    static void changed(Maker maker, long want, Call call, int bench, int... parts) {
        LightRound light = maker.make();
        due(want, call.of(light));
        dueRow(light, bench, parts);
    }

    static void dueRow(LightRound light, int bench, int... parts) {
        for (int k = 0; k < parts.length; k++) {
            due(parts[k], light.part(bench, k / 3, k % 3));
        }
        due(NO_PART, light.part(bench, parts.length / 3, 0));
    }

    /** Numbers next to low .. high and the farthest ones are refused, and change nothing. */
    static void refusedBeyond(Maker maker, long refusal, int low, int high, NumberCall call) {
        for (int number : new int[] {Integer.MIN_VALUE, low - 1, high + 1, Integer.MAX_VALUE}) {
            asked(maker, refusal, light -> call.of(light, number));
        }
    }

    /** The first and the last number taken, with their answers, and the first ones refused. */
    static void edges(Maker maker, long refusal, int low, long atLow, int high, long atHigh,
            NumberCall call) {
        due(atLow, call.of(maker.make(), low));
        due(atHigh, call.of(maker.make(), high));
        refusedBeyond(maker, refusal, low, high, call);
    }

    /** All that can be seen of an object: its benches, their parts, the drawer. */
    private static int[] seen(LightRound light) {
        int[] seen = new int[3 + 4 * 8 * 3 + 12];
        Arrays.fill(seen, NO_PART);
        int at = 0;
        for (int what = 0; what < 3; what++) {
            seen[at++] = light.count(what);
        }
        for (int place = 0; place < 12; place++) {
            seen[at++] = light.drawer(place);
        }
        for (int bench = 0; bench < 4; bench++) {
            for (int k = 0; k < 8 * 3; k++) {
                seen[at++] = light.part(bench, k / 3, k % 3);
            }
        }
        return seen;
    }

    static void end() {
        System.out.println(wrong == 0 ? "all " + asked + " answers are as due"
                : wrong + " of " + asked + " are not as due");
        if (wrong != 0) {
            System.exit(1);
        }
    }
}
