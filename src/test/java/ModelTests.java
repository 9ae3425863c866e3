import java.math.BigInteger;
import java.util.ArrayList;
import java.util.List;
import java.util.Random;

/**
 * Runs of calls drawn by a fixed seed, each answer held against a model that is written straight
 * from the document's words: fractions of any size, rays led part by part, rounds multiplied out.
 */
public final class ModelTests {
    private static final int RUNS = 800, CALLS = 512, MOST_TOLD = 20;
    private static final long NO = Long.MIN_VALUE;
    private static int wrong = 0;

    /** A fraction in its least terms, what is below the line above 0. */
    private record Fraction(BigInteger above, BigInteger below) {
        static Fraction of(BigInteger above, BigInteger below) {
            BigInteger divisor = above.gcd(below);
            if (below.signum() < 0) {
                divisor = divisor.negate();
            }
            return new Fraction(above.divide(divisor), below.divide(divisor));
        }

        static Fraction of(long whole) {
            return new Fraction(BigInteger.valueOf(whole), BigInteger.ONE);
        }

        Fraction plus(Fraction o) {
            return of(above.multiply(o.below).add(o.above.multiply(below)), below.multiply(o.below));
        }

        Fraction minus(Fraction o) {
            return plus(o.times(of(-1)));
        }

        Fraction times(Fraction o) {
            return of(above.multiply(o.above), below.multiply(o.below));
        }

        Fraction by(Fraction o) {
            return of(above.multiply(o.below), below.multiply(o.above));
        }

        int compare(Fraction o) {
            return minus(o).above.signum();
        }

        boolean is(long whole) {
            return compare(of(whole)) == 0;
        }

        Fraction size() {
            return of(above.abs(), below);
        }

        long told(int what) {
            return (what == 0 ? above : below).longValueExact();
        }
    }

    private record Part(int kind, int a, int b) {
        boolean bends() {
            return kind == 1 || kind == 2;
        }

        boolean isGood() {
            return switch (kind) {
                case 0 -> b == 0 && a >= 0 && a <= 20;
                case 1 -> b == 0 && isLens(a);
                case 2 -> isLens(a) && isLens(b);
                case 3 -> b == 0 && a >= -3 && a <= 3;
                case 4 -> b == 0 && a >= 1 && a <= 1000;
                default -> false;
            };
        }

        static boolean isLens(int a) {
            return a != 0 && a >= -9 && a <= 9;
        }
    }

    private record Ray(Fraction x, Fraction y) {
        Ray behind(Part part, int way) {
            int number = way == 1 && part.kind == 2 ? part.b : part.a;
            return switch (part.kind) {
                case 0 -> new Ray(x.plus(y.times(Fraction.of(number))), y);
                case 1, 2 -> new Ray(x, y.minus(x.by(Fraction.of(number))));
                case 3 -> new Ray(x, y.plus(Fraction.of(number)));
                default -> this;
            };
        }
    }

    private static Ray led(List<Part> parts, int way, long x, long y) {
        Ray ray = new Ray(Fraction.of(x), Fraction.of(y));
        for (Part part : parts) {
            ray = ray.behind(part, way);
        }
        return ray;
    }

    /** A, B, C, D, E, F, from what is made of (0, 0), (1, 0) and (0, 1). */
    private static Fraction[] tableOf(List<Part> parts, int way) {
        Ray none = led(parts, way, 0, 0);
        Ray far = led(parts, way, 1, 0);
        Ray lean = led(parts, way, 0, 1);
        return new Fraction[] {far.x.minus(none.x), lean.x.minus(none.x), far.y.minus(none.y),
            lean.y.minus(none.y), none.x, none.y};
    }

    private static List<Part> from(List<Part> parts, int i) {
        List<Part> round = new ArrayList<>(parts.subList(i, parts.size()));
        round.addAll(parts.subList(0, i));
        return round;
    }

    private static Fraction sum(Fraction[] t) {
        return t[0].plus(t[3]);
    }

    private static boolean isBetween(Fraction[] t) {
        return sum(t).compare(Fraction.of(-2)) > 0 && sum(t).compare(Fraction.of(2)) < 0;
    }

    private static boolean isPlain(Fraction[] t, int diagonal) {
        return t[0].is(diagonal) && t[1].is(0) && t[2].is(0) && t[3].is(diagonal);
    }

    private static int manner(List<Part> parts, int way) {
        Fraction[] t = tableOf(parts, way);
        if (isBetween(t) || isPlain(t, 1) || isPlain(t, -1)) {
            return 0;
        }
        return sum(t).is(2) || sum(t).is(-2) ? 1 : 2;
    }

    private static boolean holds(List<Part> parts) {
        return manner(parts, 0) == 0 && manner(parts, 1) == 0;
    }

    private static boolean holdsWith(List<Part> parts, int i, int a) {
        List<Part> others = new ArrayList<>(parts);
        others.set(i, new Part(parts.get(i).kind, a, 0));
        return holds(others);
    }

    private static final class Model {
        final List<List<Part>> benches = new ArrayList<>();
        final List<Integer> lengths = new ArrayList<>();

        boolean no(int bench) {
            return bench < 0 || bench >= benches.size();
        }

        boolean no(int bench, int i) {
            return no(bench) || i < 0 || i >= benches.get(bench).size();
        }

        boolean noFraction(int bench, int way, int entry, int entries, int what) {
            return no(bench) || way < 0 || way > 1 || entry < 0 || entry >= entries
                    || what < 0 || what > 1;
        }

        static boolean tooMany(List<Part> parts) {
            return parts.size() > 8 || parts.stream().filter(Part::bends).count() > 3
                    || parts.stream().filter(p -> p.kind == 3).count() > 2;
        }

        int bench() {
            if (benches.size() == 4) {
                return -4;
            }
            benches.add(new ArrayList<>());
            return benches.size() - 1;
        }

        int put(int bench, int i, int kind, int a, int b) {
            if (no(bench) || i < 0 || i > benches.get(bench).size()) {
                return -1;
            }
            Part part = new Part(kind, a, b);
            if (!part.isGood()) {
                return -2;
            }
            List<Part> after = new ArrayList<>(benches.get(bench));
            after.add(i, part);
            if (tooMany(after)) {
                return -4;
            }
            benches.set(bench, after);
            return after.size();
        }

        int take(int bench, int i) {
            return no(bench, i) ? -1 : benches.get(bench).remove(i).kind;
        }

        int set(int bench, int i, int a, int b) {
            if (no(bench, i)) {
                return -1;
            }
            Part part = new Part(benches.get(bench).get(i).kind, a, b);
            if (!part.isGood()) {
                return -2;
            }
            benches.get(bench).set(i, part);
            return 0;
        }

        int part(int bench, int i, int what) {
            if (no(bench, i) || what < 0 || what > 2) {
                return -100;
            }
            Part part = benches.get(bench).get(i);
            return what == 0 ? part.kind : what == 1 ? part.a : part.b;
        }

        int turn(int bench) {
            if (no(bench)) {
                return -1;
            }
            java.util.Collections.reverse(benches.get(bench));
            return benches.get(bench).size();
        }

        int join(int bench, int other) {
            if (no(bench) || no(other)) {
                return -1;
            }
            List<Part> after = new ArrayList<>(benches.get(bench));
            after.addAll(benches.get(other));
            if (tooMany(after)) {
                return -4;
            }
            benches.set(bench, after);
            return after.size();
        }

        long table(int bench, int way, int entry, int what) {
            return noFraction(bench, way, entry, 6, what) ? NO
                    : tableOf(benches.get(bench), way)[entry].told(what);
        }

        long ray(int bench, int way, int x, int y, int n, int entry, int what) {
            if (noFraction(bench, way, entry, 2, what) || Math.abs((long) x) > 1000
                    || Math.abs((long) y) > 1000 || n < 0 || n > benches.get(bench).size()) {
                return NO;
            }
            Ray ray = led(benches.get(bench).subList(0, n), way, x, y);
            return (entry == 0 ? ray.x : ray.y).told(what);
        }

        int stops(int bench, int way, int x, int y) {
            if (no(bench) || way < 0 || way > 1 || Math.abs((long) x) > 1000
                    || Math.abs((long) y) > 1000) {
                return -1;
            }
            Ray ray = new Ray(Fraction.of(x), Fraction.of(y));
            List<Part> parts = benches.get(bench);
            for (int i = 0; i < parts.size(); i++) {
                ray = ray.behind(parts.get(i), way);
                if (parts.get(i).kind == 4
                        && ray.x.size().compare(Fraction.of(parts.get(i).a)) > 0) {
                    return i;
                }
            }
            return -1;
        }

        int full(int bench, int way) {
            if (no(bench) || way < 0 || way > 1) {
                return -1;
            }
            if (benches.get(bench).stream().noneMatch(p -> p.kind == 4)) {
                return 1000;
            }
            int y = 0;
            while (y <= 1000 && stops(bench, way, 0, y) == -1) {
                y++;
            }
            return y - 1;
        }

        long image(int bench, int way, int entry, int what) {
            if (noFraction(bench, way, entry, 2, what)) {
                return NO;
            }
            Fraction[] t = tableOf(benches.get(bench), way);
            if (t[3].is(0)) {
                return NO;
            }
            Fraction s = Fraction.of(0).minus(t[1]).by(t[3]);
            return (entry == 0 ? s : t[0].plus(s.times(t[2]))).told(what);
        }

        int same(int bench, int other, int way) {
            if (no(bench) || no(other) || way < 0 || way > 1) {
                return -1;
            }
            Fraction[] one = tableOf(benches.get(bench), way);
            Fraction[] two = tableOf(benches.get(other), way);
            return java.util.Arrays.equals(one, two) ? 1 : 0;
        }

        int round(int bench, int way) {
            return no(bench) || way < 0 || way > 1 ? -1 : manner(benches.get(bench), way);
        }

        long trace(int bench, int way, int what) {
            return noFraction(bench, way, 0, 1, what) ? NO
                    : sum(tableOf(benches.get(bench), way)).told(what);
        }

        int turns(int bench, int way) {
            if (no(bench) || way < 0 || way > 1) {
                return -1;
            }
            List<Part> rounds = new ArrayList<>();
            for (int n = 1; n <= 12; n++) {
                rounds.addAll(benches.get(bench));
                if (isPlain(tableOf(rounds, way), 1)) {
                    return n;
                }
            }
            return 0;
        }

        Fraction wide(List<Part> parts, int way, int i) {
            Fraction[] t = tableOf(from(parts, i), way);
            return Fraction.of(4).times(t[1]).times(t[1])
                    .by(Fraction.of(4).minus(sum(t).times(sum(t))));
        }

        long beam(int bench, int way, int i, int entry, int what) {
            if (noFraction(bench, way, entry, 2, what) || no(bench, i)) {
                return NO;
            }
            List<Part> parts = benches.get(bench);
            Fraction[] t = tableOf(from(parts, i), way);
            if (!isBetween(t)) {
                return NO;
            }
            Fraction bend = t[3].minus(t[0]).by(Fraction.of(2).times(t[1]));
            return (entry == 0 ? wide(parts, way, i) : bend).told(what);
        }

        int waist(int bench, int way) {
            if (no(bench) || way < 0 || way > 1
                    || !isBetween(tableOf(benches.get(bench), way))) {
                return -1;
            }
            List<Part> parts = benches.get(bench);
            int best = 0;
            for (int i = 1; i < parts.size(); i++) {
                if (wide(parts, way, i).compare(wide(parts, way, best)) < 0) {
                    best = i;
                }
            }
            return best;
        }

        long axis(int bench, int way, int i, int entry, int what) {
            if (noFraction(bench, way, entry, 2, what) || no(bench, i)) {
                return NO;
            }
            Fraction[] t = tableOf(from(benches.get(bench), i), way);
            Fraction one = Fraction.of(1);
            Fraction rest = one.minus(t[0]).times(one.minus(t[3])).minus(t[1].times(t[2]));
            if (rest.is(0)) {
                return NO;
            }
            Fraction x = one.minus(t[3]).times(t[4]).plus(t[1].times(t[5])).by(rest);
            Fraction y = one.minus(t[0]).times(t[5]).plus(t[2].times(t[4])).by(rest);
            boolean stays = t[0].times(x).plus(t[1].times(y)).plus(t[4]).compare(x) == 0
                    && t[2].times(x).plus(t[3].times(y)).plus(t[5]).compare(y) == 0;
            if (!stays) {
                throw new IllegalStateException("the model's own axis is not one");
            }
            return (entry == 0 ? x : y).told(what);
        }

        int span(int bench, int i, int j) {
            if (no(bench, i) || j < 0) {
                return -1;
            }
            List<Part> parts = benches.get(bench);
            if (parts.get(i).kind != 0) {
                return -3;
            }
            List<Integer> span = new ArrayList<>();
            for (int length = 0; length <= 20; length++) {
                if (holdsWith(parts, i, length)) {
                    span.add(length);
                }
            }
            return j < span.size() ? span.get(j) : -1;
        }

        int own(int a) {
            if (!Part.isLens(a)) {
                return -2;
            }
            if (lengths.size() == 12) {
                return -4;
            }
            lengths.add(a);
            return lengths.size();
        }

        int fit(int bench, int i) {
            if (no(bench, i)) {
                return -1;
            }
            List<Part> parts = benches.get(bench);
            if (parts.get(i).kind != 1) {
                return -3;
            }
            for (int place = 0; place < lengths.size(); place++) {
                if (holdsWith(parts, i, lengths.get(place))) {
                    return place;
                }
            }
            return -1;
        }

        int swap(int bench, int i, int place) {
            if (no(bench, i) || place < 0 || place >= lengths.size()) {
                return -1;
            }
            Part part = benches.get(bench).get(i);
            if (part.kind != 1) {
                return -3;
            }
            benches.get(bench).set(i, new Part(1, lengths.get(place), 0));
            lengths.set(place, part.a);
            return part.a;
        }

        int count(int what) {
            return switch (what) {
                case 0 -> benches.size();
                case 1 -> benches.stream().mapToInt(List::size).sum();
                case 2 -> lengths.size();
                case 3 -> (int) benches.stream().filter(ModelTests::holds).count();
                default -> -1;
            };
        }

        int drawer(int place) {
            return place < 0 || place >= lengths.size() ? 0 : lengths.get(place);
        }
    }

    /** Draws numbers that are mostly ones the document allows, and now and then one beyond. */
    private static final class Draw {
        final Random random;
        final boolean large;

        Draw(long seed) {
            random = new Random(seed);
            // Some runs draw the largest numbers, so that a number that grows too far would show.
            large = seed % 3 == 0;
        }

        int below(int n) {
            return random.nextInt(n);
        }

        int around(int low, int high) {
            if (below(60) == 0) {
                int[] odd = {low - 1, high + 1, Integer.MIN_VALUE, Integer.MAX_VALUE};
                return odd[below(4)];
            }
            return low + below(high - low + 1);
        }

        int strength() {
            return large ? (below(2) == 0 ? 9 - below(2) : below(2) - 9) : around(-9, 9);
        }

        int firstFor(int kind) {
            return switch (kind) {
                case 0 -> large ? 20 : around(0, below(2) == 0 ? 20 : 6);
                case 3 -> around(-3, 3);
                case 4 -> below(3) == 0 ? around(1, 1000) : around(1, 40);
                default -> strength();
            };
        }

        int secondFor(int kind, int first) {
            if (kind == 2) {
                return below(2) == 0 ? first : strength();
            }
            return below(50) == 0 ? 1 : 0;
        }

        int kind() {
            return below(3) == 0 ? 0 : around(0, 4);
        }
    }

    private static void step(Model model, LightRound light, Draw d, long run) {
        int bench = d.around(0, Math.max(0, model.benches.size() - 1));
        int other = d.around(0, Math.max(0, model.benches.size() - 1));
        int size = model.no(bench) ? 0 : model.benches.get(bench).size();
        int i = d.around(0, Math.max(0, size - 1));
        int way = d.around(0, 1);
        int entry = d.around(0, 1);
        int what = d.around(0, 1);
        int call = d.below(40);
        int place = d.around(0, Math.max(0, model.lengths.size() - 1));
        switch (call) {
            case 0 -> due(run, "bench", light.bench(), model.bench());
            case 1, 2, 3, 4, 5, 6 -> {
                int at = d.around(0, size);
                int kind = d.kind();
                int a = d.firstFor(kind);
                int b = d.secondFor(kind, a);
                due(run, "put", light.put(bench, at, kind, a, b),
                        model.put(bench, at, kind, a, b), bench, at, kind, a, b);
            }
            case 7 -> due(run, "take", light.take(bench, i), model.take(bench, i), bench, i);
            case 8, 9, 10 -> {
                int kind = model.no(bench, i) ? 0 : model.benches.get(bench).get(i).kind;
                int a = d.firstFor(kind);
                int b = d.secondFor(kind, a);
                due(run, "set", light.set(bench, i, a, b), model.set(bench, i, a, b),
                        bench, i, a, b);
            }
            case 11 -> {
                int which = d.around(0, 2);
                due(run, "part", light.part(bench, i, which), model.part(bench, i, which),
                        bench, i, which);
            }
            case 12 -> due(run, "turn", light.turn(bench), model.turn(bench), bench);
            case 13 -> due(run, "join", light.join(bench, other), model.join(bench, other),
                    bench, other);
            case 14, 15 -> {
                int six = d.around(0, 5);
                due(run, "table", light.table(bench, way, six, what),
                        model.table(bench, way, six, what), bench, way, six, what);
            }
            case 16, 17 -> {
                int x = d.large ? 1000 : d.around(-1000, 1000);
                int y = d.large ? 1000 : d.around(-1000, 1000);
                int n = d.around(0, size);
                due(run, "ray", light.ray(bench, way, x, y, n, entry, what),
                        model.ray(bench, way, x, y, n, entry, what),
                        bench, way, x, y, n, entry, what);
            }
            case 18 -> {
                int reach = d.below(5) == 0 ? 1000 : 12;
                int x = d.around(-reach, reach);
                int y = d.around(-reach, reach);
                due(run, "stops", light.stops(bench, way, x, y), model.stops(bench, way, x, y),
                        bench, way, x, y);
            }
            case 19 -> due(run, "full", light.full(bench, way), model.full(bench, way),
                    bench, way);
            case 20, 21 -> due(run, "image", light.image(bench, way, entry, what),
                    model.image(bench, way, entry, what), bench, way, entry, what);
            case 22 -> due(run, "same", light.same(bench, other, way),
                    model.same(bench, other, way), bench, other, way);
            case 23 -> due(run, "round", light.round(bench, way), model.round(bench, way),
                    bench, way);
            case 24 -> due(run, "trace", light.trace(bench, way, what),
                    model.trace(bench, way, what), bench, way, what);
            case 25 -> due(run, "turns", light.turns(bench, way), model.turns(bench, way),
                    bench, way);
            case 26, 27 -> due(run, "beam", light.beam(bench, way, i, entry, what),
                    model.beam(bench, way, i, entry, what), bench, way, i, entry, what);
            case 28 -> due(run, "waist", light.waist(bench, way), model.waist(bench, way),
                    bench, way);
            case 29, 30 -> due(run, "axis", light.axis(bench, way, i, entry, what),
                    model.axis(bench, way, i, entry, what), bench, way, i, entry, what);
            case 31, 32 -> {
                int j = d.around(0, d.below(2) == 0 ? 3 : 20);
                due(run, "span", light.span(bench, i, j), model.span(bench, i, j), bench, i, j);
            }
            case 33 -> {
                int a = d.strength();
                due(run, "own", light.own(a), model.own(a), a);
            }
            case 34, 35 -> due(run, "fit", light.fit(bench, i), model.fit(bench, i), bench, i);
            case 36, 37 -> due(run, "swap", light.swap(bench, i, place),
                    model.swap(bench, i, place), bench, i, place);
            case 38 -> {
                int which = d.around(0, 3);
                due(run, "count", light.count(which), model.count(which), which);
            }
            default -> due(run, "drawer", light.drawer(place), model.drawer(place), place);
        }
    }

    private static void due(long run, String call, long got, long want, int... arguments) {
        if (got == want) {
            return;
        }
        wrong++;
        if (wrong <= MOST_TOLD) {
            System.out.println("run " + run + ": " + call + java.util.Arrays.toString(arguments)
                    + " answered " + got + ", due is " + want);
        }
    }

    public static void main(String[] args) {
        int runs = args.length > 0 ? Integer.parseInt(args[0]) : RUNS;
        for (long run = 1; run <= runs; run++) {
            Model model = new Model();
            LightRound light = new LightRound();
            Draw draw = new Draw(run);
            for (int call = 0; call < CALLS; call++) {
                step(model, light, draw, run);
            }
        }
        System.out.println(wrong == 0 ? "all answers are the model's"
                : wrong + " answers are not the model's");
        if (wrong != 0) {
            System.exit(1);
        }
    }
}
