import java.util.ArrayList;
import java.util.List;
import java.util.Random;

/**
 * Long runs of calls, told by a fixed seed, against a slow second reading of the document: it clips
 * each PATH to each DOT with fractions, where the class counts what is left of each edge.
 */
public final class ModelTest {
    private static final Check CHECK = new Check("ModelTest");
    private static final int RUNS = 150;
    private static final int CALLS = 512;

    public static void main(String[] args) {
        turnsByPlaces();
        smallPaths();
        windingPaths();
        for (int run = 0; run < RUNS && CHECK.wrongSoFar() < 20; run++) {
            new Run(run).play();
        }
        CHECK.end();
    }

    /** RAW against TURNS themselves, asked at many places of each DOT: near, not exact. */
    private static void turnsByPlaces() {
        Random random = new Random(7);
        for (int trial = 0; trial < 20; trial++) {
            DotCover x = new DotCover();
            int points = 3 + random.nextInt(6);
            int[] xs = new int[points];
            int[] ys = new int[points];
            for (int k = 0; k < points; k++) {
                xs[k] = random.nextInt(13);
                ys[k] = random.nextInt(13);
                x.point(0, xs[k], ys[k]);
            }
            for (int dot = 0; dot < 16; dot++) {
                double told = (double) x.raw(0, dot, 0) / x.raw(0, dot, 1);
                CHECK.holds("RAW by places, trial " + trial + " dot " + dot, Math.abs(told - sampled(xs, ys, dot)) < 0.05);
            }
        }
    }

    /** BEST has many moves to choose from where a path is small. */
    private static void smallPaths() {
        Random random = new Random(8);
        for (int trial = 0; trial < 150; trial++) {
            int wide = 1 + random.nextInt(8);
            int high = 1 + random.nextInt(8);
            int left = random.nextInt(13 - wide);
            int low = random.nextInt(13 - high);
            List<Spot> path = new ArrayList<>(List.of(new Spot(left, low), new Spot(left + wide, low),
                    new Spot(left + wide, low + high), new Spot(left, low + high)));
            for (int more = random.nextInt(5); more > 0; more--) {
                path.add(random.nextBoolean() ? path.get(path.size() - 4)
                        : new Spot(left + random.nextInt(wide + 1), low + random.nextInt(high + 1)));
            }
            dueAll("small " + trial, path, trial % 2, true);
        }
    }

    /** Stars go round up to three times, so that RULE 1 folds all that it can. */
    private static void windingPaths() {
        Random random = new Random(9);
        int[] ring = {4, 0, 8, 0, 12, 4, 12, 8, 8, 12, 4, 12, 0, 8, 0, 4};
        for (int trial = 0; trial < 60; trial++) {
            int points = trial % 3 == 0 ? 7 : 8;
            List<Spot> path = new ArrayList<>();
            for (int k = 0; k < points; k++) {
                int corner = 2 * (3 * k % points);
                path.add(new Spot(near(ring[corner], random), near(ring[corner + 1], random)));
            }
            dueAll("star " + trial, path, trial % 2, trial % 5 == 0);
        }
    }

    private static int near(int place, Random random) {
        return Math.max(0, Math.min(12, place + random.nextInt(5) - 2));
    }

    private static void dueAll(String name, List<Spot> path, int rule, boolean withBest) {
        DotCover x = new DotCover();
        Model model = new Model();
        x.rule(1, rule);
        model.rules[1] = rule;
        for (Spot s : path) {
            x.point(1, s.x, s.y);
            model.paths.get(1).add(s);
        }
        for (int dot = 0; dot < 16; dot++) {
            Frac raw = Model.raw(path, dot);
            Frac cover = model.cover(1, dot);
            CHECK.due(name + " raw " + dot, x.raw(1, dot, 0), x.raw(1, dot, 1), raw.up, raw.low);
            CHECK.due(name + " cover " + dot, x.cover(1, dot, 0), x.cover(1, dot, 1), cover.up, cover.low);
        }
        for (int what = 0; what < 3 && withBest; what++) {
            CHECK.due(name + " best " + what, x.best(1, what), model.best(1, what));
        }
    }

    private static double sampled(int[] xs, int[] ys, int dot) {
        int side = 97;
        double sum = 0;
        for (int i = 0; i < side; i++) {
            for (int j = 0; j < side; j++) {
                sum += turns(xs, ys, 3 * (dot % 4) + 3 * (i + 0.5) / side, 3 * (dot / 4) + 3 * (j + 0.5) / side);
            }
        }
        return sum / (side * side);
    }

    /** The angle that the PATH sweeps as seen from a place, in whole turns. */
    private static long turns(int[] xs, int[] ys, double px, double py) {
        double swept = 0;
        for (int k = 0; k < xs.length; k++) {
            int next = (k + 1) % xs.length;
            double ax = xs[k] - px;
            double ay = ys[k] - py;
            double bx = xs[next] - px;
            double by = ys[next] - py;
            swept += Math.atan2(ax * by - ay * bx, ax * bx + ay * by);
        }
        return Math.round(swept / (2 * Math.PI));
    }

    private record Frac(long up, long low) implements Comparable<Frac> {
        static final Frac ZERO = new Frac(0, 1);
        static final Frac ONE = new Frac(1, 1);
        static final Frac TWO = new Frac(2, 1);

        static Frac of(long up, long low) {
            long divisor = java.math.BigInteger.valueOf(up).gcd(java.math.BigInteger.valueOf(low)).longValueExact();
            long sign = low < 0 ? -1 : 1;
            return new Frac(sign * up / divisor, sign * low / divisor);
        }

        Frac plus(Frac o) {
            return of(Math.addExact(Math.multiplyExact(up, o.low), Math.multiplyExact(o.up, low)), Math.multiplyExact(low, o.low));
        }

        Frac minus(Frac o) {
            return plus(new Frac(-o.up, o.low));
        }

        Frac times(Frac o) {
            return of(Math.multiplyExact(up, o.up), Math.multiplyExact(low, o.low));
        }

        Frac by(Frac o) {
            return times(of(o.low, o.up));
        }

        Frac plain() {
            return up < 0 ? new Frac(-up, low) : this;
        }

        @Override
        public int compareTo(Frac o) {
            return java.math.BigInteger.valueOf(up).multiply(java.math.BigInteger.valueOf(o.low))
                    .compareTo(java.math.BigInteger.valueOf(o.up).multiply(java.math.BigInteger.valueOf(low)));
        }
    }

    private record Place(Frac x, Frac y) {
        Frac along(boolean upright) {
            return upright ? x : y;
        }
    }

    private record Spot(int x, int y) {
    }

    private static final class Model {
        final List<List<Spot>> paths = new ArrayList<>();
        final int[] rules = new int[3];

        Model() {
            for (int i = 0; i < 3; i++) {
                paths.add(new ArrayList<>());
            }
        }

        Model copy() {
            Model m = new Model();
            for (int i = 0; i < 3; i++) {
                m.paths.get(i).addAll(paths.get(i));
                m.rules[i] = rules[i];
            }
            return m;
        }

        static List<Spot> moved(List<Spot> path, int dx, int dy) {
            List<Spot> there = new ArrayList<>();
            for (Spot s : path) {
                there.add(new Spot(s.x + dx, s.y + dy));
            }
            return there;
        }

        static boolean inField(List<Spot> path) {
            return path.stream().allMatch(s -> s.x >= 0 && s.x <= 12 && s.y >= 0 && s.y <= 12);
        }

        /** What of a closed path is on one side of a line; what was cut away runs along the line. */
        static List<Place> clip(List<Place> path, boolean upright, int line, boolean above) {
            Frac at = new Frac(line, 1);
            List<Place> left = new ArrayList<>();
            for (int k = 0; k < path.size(); k++) {
                Place a = path.get(k);
                Place b = path.get((k + 1) % path.size());
                int sideA = above ? a.along(upright).compareTo(at) : at.compareTo(a.along(upright));
                int sideB = above ? b.along(upright).compareTo(at) : at.compareTo(b.along(upright));
                if (sideA >= 0) {
                    left.add(a);
                }
                if (sideA * sideB < 0) {
                    Frac share = at.minus(a.along(upright)).by(b.along(upright).minus(a.along(upright)));
                    left.add(new Place(a.x.plus(share.times(b.x.minus(a.x))), a.y.plus(share.times(b.y.minus(a.y)))));
                }
            }
            return left;
        }

        static Frac raw(List<Spot> path, int dot) {
            List<Place> left = new ArrayList<>();
            for (Spot s : path) {
                left.add(new Place(new Frac(s.x, 1), new Frac(s.y, 1)));
            }
            int x = 3 * (dot % 4);
            int y = 3 * (dot / 4);
            left = clip(left, true, x, true);
            left = clip(left, true, x + 3, false);
            left = clip(left, false, y, true);
            left = clip(left, false, y + 3, false);
            Frac twice = Frac.ZERO;
            for (int k = 0; k < left.size(); k++) {
                Place a = left.get(k);
                Place b = left.get((k + 1) % left.size());
                twice = twice.plus(a.x.times(b.y)).minus(b.x.times(a.y));
            }
            return twice.by(new Frac(18, 1));
        }

        static Frac cover(List<Spot> path, int rule, int dot) {
            Frac raw = raw(path, dot).plain();
            if (rule == 0) {
                return raw.compareTo(Frac.ONE) > 0 ? Frac.ONE : raw;
            }
            while (raw.compareTo(Frac.TWO) >= 0) {
                raw = raw.minus(Frac.TWO);
            }
            return raw.compareTo(Frac.ONE) > 0 ? Frac.TWO.minus(raw) : raw;
        }

        Frac cover(int layer, int dot) {
            return cover(paths.get(layer), rules[layer], dot);
        }

        Frac together(int dot) {
            Frac left = Frac.ONE;
            for (int layer = 0; layer < 3; layer++) {
                left = left.times(Frac.ONE.minus(cover(layer, dot)));
            }
            return Frac.ONE.minus(left);
        }

        /** Shoelace, which the document's sum over the DOTS must come to. */
        Frac area(int layer) {
            long twice = 0;
            List<Spot> path = paths.get(layer);
            for (int k = 0; k < path.size(); k++) {
                Spot a = path.get(k);
                Spot b = path.get((k + 1) % path.size());
                twice += a.x * b.y - b.x * a.y;
            }
            return Frac.of(twice, 2);
        }

        int field(int what) {
            int found = 0;
            int counted = 0;
            Frac[] all = new Frac[16];
            for (int dot = 0; dot < 16; dot++) {
                all[dot] = together(dot);
                int order = all[dot].compareTo(all[found]);
                if (what == 0 && order > 0 || what == 1 && order < 0) {
                    found = dot;
                }
                counted += all[dot].equals(what == 2 ? Frac.ONE : Frac.ZERO) ? 1 : 0;
            }
            return what < 2 ? found : counted;
        }

        int best(int layer, int what) {
            int[] best = {0, 0, -1};
            for (int dx = -12; dx <= 12; dx++) {
                for (int dy = -12; dy <= 12; dy++) {
                    List<Spot> there = moved(paths.get(layer), dx, dy);
                    if (!inField(there)) {
                        continue;
                    }
                    int dots = 0;
                    for (int dot = 0; dot < 16; dot++) {
                        dots += cover(there, rules[layer], dot).equals(Frac.ONE) ? 1 : 0;
                    }
                    if (dots > best[2]) {
                        best = new int[] {dx + 100, dy + 100, dots};
                    }
                }
            }
            return best[what];
        }
    }

    /** One object and its model, told the same calls. */
    private static final class Run {
        private final int number;
        private final Random random;
        private final DotCover x = new DotCover();
        private Model now = new Model();
        private final Model[] images = new Model[2];
        private int calls = 0;

        Run(int number) {
            this.number = number;
            random = new Random(1000 + number);
        }

        void play() {
            while (calls < CALLS && CHECK.wrongSoFar() < 20) {
                int call = random.nextInt(100);
                if (call < 30) {
                    points();
                } else if (call < 50) {
                    wholePaths();
                } else if (call < 58) {
                    imagesAndCounts();
                } else if (call < 99) {
                    covers();
                } else {
                    best();
                }
            }
        }

        private void due(String call, long got, long want) {
            calls++;
            CHECK.due("run " + number + ", call " + calls + ": " + call, got, want);
        }

        /** Mostly from least to most, at times beyond. */
        private int number(int least, int most) {
            int lot = random.nextInt(60);
            if (lot == 0) {
                return least - 1 - random.nextInt(3);
            }
            if (lot == 1) {
                return most + 1 + random.nextInt(3);
            }
            if (lot == 2) {
                return random.nextInt();
            }
            return least + random.nextInt(most - least + 1);
        }

        /** Often on the DOTS' sides, where answers come to 0 and 1. */
        private int coordinate() {
            return number % 2 == 0 && random.nextInt(4) > 0 ? 3 * random.nextInt(5) : number(0, 12);
        }

        private static boolean within(int n, int least, int most) {
            return n >= least && n <= most;
        }

        private boolean isPoint(int layer, int k) {
            return within(layer, 0, 2) && within(k, 0, now.paths.get(layer).size() - 1);
        }

        private void points() {
            int layer = number(0, 2);
            int k = number(0, within(layer, 0, 2) ? Math.max(0, now.paths.get(layer).size() - 1) : 7);
            int px = coordinate();
            int py = coordinate();
            boolean inside = within(px, 0, 12) && within(py, 0, 12);
            List<Spot> path = within(layer, 0, 2) ? now.paths.get(layer) : null;
            switch (random.nextInt(8)) {
                case 0, 1, 2, 3 -> {
                    int want = path == null ? -1 : !inside ? -2 : path.size() == 8 ? -4 : path.size();
                    due("point(" + layer + ", " + px + ", " + py + ")", x.point(layer, px, py), want);
                    if (want >= 0) {
                        path.add(new Spot(px, py));
                    }
                }
                case 4, 5 -> {
                    Spot was = isPoint(layer, k) ? path.get(k) : null;
                    int want = was == null ? -1 : !inside ? -2 : 13 * was.x + was.y;
                    due("set(" + layer + ", " + k + ", " + px + ", " + py + ")", x.set(layer, k, px, py), want);
                    if (want >= 0) {
                        path.set(k, new Spot(px, py));
                    }
                }
                case 6 -> {
                    int want = path == null ? -1 : path.isEmpty() ? -3 : path.size() - 1;
                    due("pop(" + layer + ")", x.pop(layer), want);
                    if (want >= 0) {
                        path.remove(want);
                    }
                }
                default -> {
                    int what = number(0, 1);
                    int want = !isPoint(layer, k) ? -1 : !within(what, 0, 1) ? -2
                            : what == 0 ? path.get(k).x : path.get(k).y;
                    due("at(" + layer + ", " + k + ", " + what + ")", x.at(layer, k, what), want);
                }
            }
        }

        private void wholePaths() {
            int layer = number(0, 2);
            List<Spot> path = within(layer, 0, 2) ? now.paths.get(layer) : null;
            switch (random.nextInt(4)) {
                case 0 -> {
                    int v = number(0, 1);
                    int want = path == null ? -1 : !within(v, 0, 1) ? -2 : now.rules[layer];
                    due("rule(" + layer + ", " + v + ")", x.rule(layer, v), want);
                    if (want >= 0) {
                        now.rules[layer] = v;
                    }
                }
                case 1 -> {
                    int reach = random.nextInt(3) == 0 ? 12 : 3;
                    int dx = number(-reach, reach);
                    int dy = number(-reach, reach);
                    boolean far = !within(dx, -12, 12) || !within(dy, -12, 12);
                    int want = path == null ? -1 : far ? -2 : !Model.inField(Model.moved(path, dx, dy)) ? -5 : path.size();
                    due("move(" + layer + ", " + dx + ", " + dy + ")", x.move(layer, dx, dy), want);
                    if (want >= 0) {
                        now.paths.set(layer, Model.moved(path, dx, dy));
                    }
                }
                case 2 -> {
                    due("back(" + layer + ")", x.back(layer), path == null ? -1 : path.size());
                    if (path != null) {
                        java.util.Collections.reverse(path);
                    }
                }
                default -> {
                    int k = number(0, 7);
                    due("begin(" + layer + ", " + k + ")", x.begin(layer, k), isPoint(layer, k) ? path.size() : -1);
                    if (isPoint(layer, k)) {
                        java.util.Collections.rotate(path, -k);
                    }
                }
            }
        }

        private void imagesAndCounts() {
            int k = number(0, 1);
            switch (random.nextInt(4)) {
                case 0 -> {
                    due("image(" + k + ")", x.image(k), within(k, 0, 1) ? 1 : -2);
                    if (within(k, 0, 1)) {
                        images[k] = now.copy();
                    }
                }
                case 1 -> {
                    boolean kept = within(k, 0, 1) && images[k] != null;
                    due("restore(" + k + ")", x.restore(k), !within(k, 0, 1) ? -2 : kept ? 1 : -3);
                    if (kept) {
                        now = images[k].copy();
                    }
                }
                default -> {
                    int what = number(0, 12);
                    due("count(" + what + ")", x.count(what), counted(what));
                }
            }
        }

        private int counted(int what) {
            if (within(what, 0, 2)) {
                return now.paths.get(what).size();
            }
            if (what == 3) {
                return now.paths.stream().mapToInt(List::size).sum();
            }
            if (what == 4) {
                return (images[0] == null ? 0 : 1) + (images[1] == null ? 0 : 2);
            }
            return within(what, 10, 12) ? now.rules[what - 10] : -2;
        }

        private void covers() {
            int layer = number(0, 2);
            int dot = number(0, 15);
            int part = number(0, 1);
            boolean known = within(layer, 0, 2);
            boolean both = known && within(dot, 0, 15);
            boolean told = within(part, 0, 1);
            long below = -1_000_000_000_000_000_000L;
            switch (random.nextInt(7)) {
                case 0 -> due("raw(" + layer + ", " + dot + ", " + part + ")", x.raw(layer, dot, part),
                        !both ? below - 1 : !told ? below - 2 : tell(Model.raw(now.paths.get(layer), dot), part));
                case 1 -> due("cover(" + layer + ", " + dot + ", " + part + ")", x.cover(layer, dot, part),
                        !both ? -1 : !told ? -2 : tell(now.cover(layer, dot), part));
                case 2 -> due("together(" + dot + ", " + part + ")", x.together(dot, part),
                        !within(dot, 0, 15) ? -1 : !told ? -2 : tell(now.together(dot), part));
                case 3 -> due("area(" + layer + ", " + part + ")", x.area(layer, part),
                        !known ? below - 1 : !told ? below - 2 : tell(now.area(layer), part));
                case 4 -> {
                    int what = number(0, 3);
                    due("field(" + what + ")", x.field(what), within(what, 0, 3) ? now.field(what) : -2);
                }
                case 5 -> {
                    int other = number(0, 2);
                    due("same(" + layer + ", " + other + ")", x.same(layer, other),
                            known && within(other, 0, 2) ? alike(layer, other) : -1);
                }
                default -> enough(layer);
            }
        }

        private static long tell(Frac f, int part) {
            return part == 0 ? f.up : f.low;
        }

        private int alike(int one, int other) {
            int dots = 0;
            for (int dot = 0; dot < 16; dot++) {
                dots += now.cover(one, dot).equals(now.cover(other, dot)) ? 1 << dot : 0;
            }
            return dots;
        }

        /** Half of them just at a DOT's COVER, where it fits. */
        private void enough(int layer) {
            int low = number(1, 99);
            int up = number(0, Math.max(1, Math.min(low, 99)));
            if (within(layer, 0, 2) && random.nextBoolean()) {
                Frac edge = now.cover(layer, random.nextInt(16));
                if (edge.low <= 99) {
                    low = (int) edge.low;
                    up = (int) edge.up;
                }
            }
            int want = 0;
            if (!within(layer, 0, 2)) {
                want = -1;
            } else if (!within(low, 1, 99) || !within(up, 0, low)) {
                want = -2;
            } else {
                for (int dot = 0; dot < 16; dot++) {
                    want += now.cover(layer, dot).compareTo(Frac.of(up, low)) >= 0 ? 1 << dot : 0;
                }
            }
            due("enough(" + layer + ", " + up + ", " + low + ")", x.enough(layer, up, low), want);
        }

        private void best() {
            int layer = number(0, 2);
            int what = number(0, 2);
            int want = !within(layer, 0, 2) ? -1 : !within(what, 0, 2) ? -2
                    : now.paths.get(layer).isEmpty() ? -6 : now.best(layer, what);
            due("best(" + layer + ", " + what + ")", x.best(layer, what), want);
        }
    }
}
