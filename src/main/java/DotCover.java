/**
 * Closed paths over a field of dots: how much of each dot a path goes round, told exactly.
 * The words in capitals are those of the document.
 */
public final class DotCover {
    public static final int UNKNOWN = -1, OUTSIDE = -2, STATE = -3, FULL = -4, NO = -5, NONE = -6;
    public static final long BELOW = -1000000000000000000L;

    private static final int LAYERS = 3;
    private static final int MOST_POINTS = 8;
    private static final int IMAGES = 2;
    private static final int EDGE = 12;
    private static final int DOTS = 16;
    private static final int DOTS_IN_ROW = 4;
    private static final int DOT_SIDE = 3;

    // What a line through two whole places cuts off a square is a whole number of 1/(2 w h), w and h
    // being its width and height in lowest terms. Both are 12 at most and share no divisor, so w h
    // divides 27720, the least number that 1 to 12 all divide: areas are counted in these parts,
    // and no fraction is needed till one is told.
    private static final long HALF_PARTS = 27720L;
    private static final long SQUARE_PARTS = 2L * HALF_PARTS;
    private static final long DOT_PARTS = DOT_SIDE * DOT_SIDE * SQUARE_PARTS;
    // About 1.24e17, so the product of three COVERS fits into a long.
    private static final long TOGETHER_PARTS = DOT_PARTS * DOT_PARTS * DOT_PARTS;

    // Euclid needs fewer than 93 steps for two longs.
    private static final int EUCLID_STEPS = 100;

    private final Scene now;
    private final Scene[] images;
    private int keptImages;

    public DotCover() {
        now = new Scene();
        images = new Scene[IMAGES];
        for (int k = 0; k < IMAGES; k++) {
            images[k] = new Scene();
        }
        keptImages = 0;
    }

    // ---- 1 paths

    public int point(int layer, int x, int y) {
        Layer on = now.layerOf(layer);
        if (on == null) {
            return UNKNOWN;
        }
        if (!inField(x) || !inField(y)) {
            return OUTSIDE;
        }
        if (on.size >= MOST_POINTS) {
            return FULL;
        }
        return on.add(x, y);
    }

    public int pop(int layer) {
        Layer on = now.layerOf(layer);
        if (on == null) {
            return UNKNOWN;
        }
        if (on.size <= 0) {
            return STATE;
        }
        on.size--;
        return on.size;
    }

    public int set(int layer, int k, int x, int y) {
        Layer on = now.layerOf(layer);
        if (on == null || !on.has(k)) {
            return UNKNOWN;
        }
        if (!inField(x) || !inField(y)) {
            return OUTSIDE;
        }
        int before = (EDGE + 1) * on.xs[k] + on.ys[k];
        on.xs[k] = x;
        on.ys[k] = y;
        return before;
    }

    public int rule(int layer, int v) {
        Layer on = now.layerOf(layer);
        if (on == null) {
            return UNKNOWN;
        }
        if (!within(v, 0, 1)) {
            return OUTSIDE;
        }
        int before = on.folding;
        on.folding = v;
        return before;
    }

    public int move(int layer, int dx, int dy) {
        Layer on = now.layerOf(layer);
        if (on == null) {
            return UNKNOWN;
        }
        if (!within(dx, -EDGE, EDGE) || !within(dy, -EDGE, EDGE)) {
            return OUTSIDE;
        }
        if (!on.staysInField(dx, dy)) {
            return NO;
        }
        on.shift(dx, dy);
        return on.size;
    }

    public int back(int layer) {
        Layer on = now.layerOf(layer);
        if (on == null) {
            return UNKNOWN;
        }
        on.reverse(0, on.size);
        return on.size;
    }

    public int begin(int layer, int k) {
        Layer on = now.layerOf(layer);
        if (on == null || !on.has(k)) {
            return UNKNOWN;
        }
        on.startAt(k);
        return on.size;
    }

    public int at(int layer, int k, int what) {
        Layer on = now.layerOf(layer);
        if (on == null || !on.has(k)) {
            return UNKNOWN;
        }
        if (!within(what, 0, 1)) {
            return OUTSIDE;
        }
        return what == 0 ? on.xs[k] : on.ys[k];
    }

    // ---- 2 covers

    public long raw(int layer, int dot, int part) {
        Layer on = now.layerOf(layer);
        if (on == null || !isDot(dot)) {
            return BELOW + UNKNOWN;
        }
        if (!within(part, 0, 1)) {
            return BELOW + OUTSIDE;
        }
        return lowestTerms(on.rawParts(dot, 0, 0), DOT_PARTS, part);
    }

    public long cover(int layer, int dot, int part) {
        Layer on = now.layerOf(layer);
        if (on == null || !isDot(dot)) {
            return UNKNOWN;
        }
        if (!within(part, 0, 1)) {
            return OUTSIDE;
        }
        return lowestTerms(on.coverParts(dot, 0, 0), DOT_PARTS, part);
    }

    public long together(int dot, int part) {
        if (!isDot(dot)) {
            return UNKNOWN;
        }
        if (!within(part, 0, 1)) {
            return OUTSIDE;
        }
        return lowestTerms(now.togetherParts(dot), TOGETHER_PARTS, part);
    }

    public long area(int layer, int part) {
        Layer on = now.layerOf(layer);
        if (on == null) {
            return BELOW + UNKNOWN;
        }
        if (!within(part, 0, 1)) {
            return BELOW + OUTSIDE;
        }
        long sum = 0;
        for (int dot = 0; dot < DOTS; dot++) {
            sum += on.rawParts(dot, 0, 0);
        }
        return lowestTerms(sum, SQUARE_PARTS, part);
    }

    public int enough(int layer, int up, int low) {
        Layer on = now.layerOf(layer);
        if (on == null) {
            return UNKNOWN;
        }
        if (!within(low, 1, 99) || !within(up, 0, low)) {
            return OUTSIDE;
        }
        int dots = 0;
        for (int dot = 0; dot < DOTS; dot++) {
            if (on.coverParts(dot, 0, 0) * low >= DOT_PARTS * up) {
                dots |= 1 << dot;
            }
        }
        return dots;
    }

    public int field(int what) {
        switch (what) {
            case 0:
                return now.mostCoveredDot();
            case 1:
                return now.leastCoveredDot();
            case 2:
                return now.dotsWithTogether(TOGETHER_PARTS);
            case 3:
                return now.dotsWithTogether(0L);
            default:
                return OUTSIDE;
        }
    }

    public int best(int layer, int what) {
        Layer on = now.layerOf(layer);
        if (on == null) {
            return UNKNOWN;
        }
        if (!within(what, 0, 2)) {
            return OUTSIDE;
        }
        if (on.size <= 0) {
            return NONE;
        }
        return on.bestMove(what);
    }

    public int same(int one, int other) {
        Layer first = now.layerOf(one);
        Layer second = now.layerOf(other);
        if (first == null || second == null) {
            return UNKNOWN;
        }
        int dots = 0;
        for (int dot = 0; dot < DOTS; dot++) {
            if (first.coverParts(dot, 0, 0) == second.coverParts(dot, 0, 0)) {
                dots |= 1 << dot;
            }
        }
        return dots;
    }

    // ---- 3 images

    public int image(int k) {
        if (!within(k, 0, IMAGES - 1)) {
            return OUTSIDE;
        }
        images[k].copyFrom(now);
        keptImages |= 1 << k;
        return 1;
    }

    public int restore(int k) {
        if (!within(k, 0, IMAGES - 1)) {
            return OUTSIDE;
        }
        if ((keptImages >> k & 1) == 0) {
            return STATE;
        }
        now.copyFrom(images[k]);
        return 1;
    }

    public int count(int what) {
        if (what == 3) {
            return now.pointsOfAll();
        }
        if (what == 4) {
            return keptImages;
        }
        Layer asked = now.layerOf(what);
        if (asked != null) {
            return asked.size;
        }
        Layer ruled = now.layerOf(what - 10);
        return ruled == null ? OUTSIDE : ruled.folding;
    }

    private static boolean within(int number, int least, int most) {
        return number >= least && number <= most;
    }

    private static boolean inField(int number) {
        return within(number, 0, EDGE);
    }

    private static boolean isDot(int dot) {
        return within(dot, 0, DOTS - 1);
    }

    private static long lowestTerms(long up, long low, int part) {
        long divisor = greatestDivisor(Math.abs(up), low);
        if (divisor <= 0) {
            return 0;
        }
        return (part == 0 ? up : low) / divisor;
    }

    private static long greatestDivisor(long one, long other) {
        long greater = one;
        long rest = other;
        for (int step = 0; step < EUCLID_STEPS && rest != 0; step++) {
            long next = greater % rest;
            greater = rest;
            rest = next;
        }
        return greater;
    }

    /** All but IMAGES: what an IMAGE keeps. */
    private static final class Scene {
        private final Layer[] layers;

        Scene() {
            layers = new Layer[LAYERS];
            for (int i = 0; i < LAYERS; i++) {
                layers[i] = new Layer();
            }
        }

        /** Null if there is no such LAYER. */
        Layer layerOf(int number) {
            return within(number, 0, LAYERS - 1) ? layers[number] : null;
        }

        void copyFrom(Scene other) {
            for (int i = 0; i < LAYERS; i++) {
                layers[i].copyFrom(other.layers[i]);
            }
        }

        int pointsOfAll() {
            int sum = 0;
            for (int i = 0; i < LAYERS; i++) {
                sum += layers[i].size;
            }
            return sum;
        }

        /** TOGETHER of a DOT, times TOGETHER_PARTS. */
        long togetherParts(int dot) {
            long uncovered = 1;
            for (int i = 0; i < LAYERS; i++) {
                uncovered *= DOT_PARTS - layers[i].coverParts(dot, 0, 0);
            }
            return TOGETHER_PARTS - uncovered;
        }

        int mostCoveredDot() {
            int found = 0;
            long most = togetherParts(0);
            for (int dot = 1; dot < DOTS; dot++) {
                long parts = togetherParts(dot);
                if (parts > most) {
                    most = parts;
                    found = dot;
                }
            }
            return found;
        }

        int leastCoveredDot() {
            int found = 0;
            long least = togetherParts(0);
            for (int dot = 1; dot < DOTS; dot++) {
                long parts = togetherParts(dot);
                if (parts < least) {
                    least = parts;
                    found = dot;
                }
            }
            return found;
        }

        int dotsWithTogether(long parts) {
            int dots = 0;
            for (int dot = 0; dot < DOTS; dot++) {
                if (togetherParts(dot) == parts) {
                    dots++;
                }
            }
            return dots;
        }
    }

    /** A PATH and its RULE. */
    private static final class Layer {
        private final int[] xs;
        private final int[] ys;
        private int size;
        // The RULE: 0 cuts what is above 1 off, 1 folds it back.
        private int folding;

        Layer() {
            xs = new int[MOST_POINTS];
            ys = new int[MOST_POINTS];
            size = 0;
            folding = 0;
        }

        boolean has(int k) {
            return k >= 0 && k < size;
        }

        int add(int x, int y) {
            int k = size;
            xs[k] = x;
            ys[k] = y;
            size++;
            return k;
        }

        void copyFrom(Layer other) {
            for (int k = 0; k < MOST_POINTS; k++) {
                xs[k] = other.xs[k];
                ys[k] = other.ys[k];
            }
            size = other.size;
            folding = other.folding;
        }

        boolean staysInField(int dx, int dy) {
            for (int k = 0; k < size; k++) {
                if (!inField(xs[k] + dx) || !inField(ys[k] + dy)) {
                    return false;
                }
            }
            return true;
        }

        void shift(int dx, int dy) {
            for (int k = 0; k < size; k++) {
                xs[k] += dx;
                ys[k] += dy;
            }
        }

        /** The POINTS from one number on, up to (and without) another, come the other way round. */
        void reverse(int from, int to) {
            int last = to - 1;
            for (int first = from; first < last; first++) {
                swap(first, last);
                last--;
            }
        }

        private void swap(int one, int other) {
            int x = xs[one];
            int y = ys[one];
            xs[one] = xs[other];
            ys[one] = ys[other];
            xs[other] = x;
            ys[other] = y;
        }

        /** Three reversals turn the row without a second one. */
        void startAt(int k) {
            reverse(0, k);
            reverse(k, size);
            reverse(0, size);
        }

        /** dx and 100 (what = 0), dy and 100 (1) of BEST, or how many DOTS have COVER 1 then (2). */
        int bestMove(int what) {
            int left = least(xs);
            int right = greatest(xs);
            int bottom = least(ys);
            int top = greatest(ys);
            int most = -1;
            int bestDx = 0;
            int bestDy = 0;
            for (int dx = -left; dx <= EDGE - right; dx++) {
                for (int dy = -bottom; dy <= EDGE - top; dy++) {
                    int dots = 0;
                    for (int row = (bottom + dy) / DOT_SIDE; DOT_SIDE * row < top + dy; row++) {
                        dots += wholeDots(row, left, right, dx, dy);
                    }
                    if (dots > most) {
                        most = dots;
                        bestDx = dx;
                        bestDy = dy;
                    }
                }
            }
            if (what == 2) {
                return most;
            }
            return 100 + (what == 0 ? bestDx : bestDy);
        }

        private int least(int[] numbers) {
            int found = EDGE;
            for (int k = 0; k < size; k++) {
                found = Math.min(found, numbers[k]);
            }
            return found;
        }

        private int greatest(int[] numbers) {
            int found = 0;
            for (int k = 0; k < size; k++) {
                found = Math.max(found, numbers[k]);
            }
            return found;
        }

        /**
         * How many DOTS of a row have COVER 1 if the PATH, which lies from left to right, is MOVED.
         * The others of the row are not asked: a PATH that is not over them has RAW 0 there.
         */
        private int wholeDots(int row, int left, int right, int dx, int dy) {
            int dots = 0;
            for (int column = (left + dx) / DOT_SIDE; DOT_SIDE * column < right + dx; column++) {
                if (coverParts(DOTS_IN_ROW * row + column, dx, dy) == DOT_PARTS) {
                    dots++;
                }
            }
            return dots;
        }

        /** COVER of a DOT, times DOT_PARTS, if the PATH is MOVED. */
        long coverParts(int dot, int dx, int dy) {
            long parts = Math.abs(rawParts(dot, dx, dy));
            if (folding == 0) {
                return Math.min(parts, DOT_PARTS);
            }
            long left = parts % (2 * DOT_PARTS);
            return left > DOT_PARTS ? 2 * DOT_PARTS - left : left;
        }

        /** RAW of a DOT, times DOT_PARTS, if the PATH is MOVED. */
        long rawParts(int dot, int dx, int dy) {
            // Moving the DOT the other way spares moving the PATH.
            int left = DOT_SIDE * (dot % DOTS_IN_ROW) - dx;
            int bottom = DOT_SIDE * (dot / DOTS_IN_ROW) - dy;
            long sum = 0;
            for (int k = 0; k < size; k++) {
                int next = k + 1 < size ? k + 1 : 0;
                // TURNS of a place are the upward edges to its right, less the downward ones.
                if (ys[k] < ys[next]) {
                    sum += leftOfEdge(xs[k], ys[k], xs[next], ys[next], left, bottom);
                } else if (ys[k] > ys[next]) {
                    sum -= leftOfEdge(xs[next], ys[next], xs[k], ys[k], left, bottom);
                }
            }
            return sum;
        }

        /** How much of a DOT has the edge from (x1, y1) up to (x2, y2) to its right. */
        private static long leftOfEdge(int x1, int y1, int x2, int y2, int left, int bottom) {
            int from = Math.max(y1, bottom);
            int to = Math.min(y2, bottom + DOT_SIDE);
            if (from >= to) {
                return 0;
            }
            int slant = x2 - x1;
            int height = y2 - y1;
            // How far the edge is to the right of the DOT's left side, times height to be whole.
            int low = (x1 - left) * height + slant * (from - y1);
            int high = (x1 - left) * height + slant * (to - y1);
            int side = DOT_SIDE * height;
            int width = Math.abs(slant);
            return beforeEdge(low, high, width, height, to - from)
                    - beforeEdge(low - side, high - side, width, height, to - from);
        }

        /**
         * The area between an upright line and the edge, where the edge is to the right of the line,
         * over a band: low and high are the edge's distances, times height, at the band's ends.
         */
        private static long beforeEdge(int low, int high, int width, int height, int band) {
            if (height == 0 || low <= 0 && high <= 0) {
                return 0;
            }
            if (low >= 0 && high >= 0) {
                return HALF_PARTS * (low + high) * band / height;
            }
            if (width == 0) {
                return 0;
            }
            // The edge crosses the line within the band: a triangle is left.
            int base = low > high ? low : high;
            return HALF_PARTS * base * base / (width * height);
        }
    }
}
