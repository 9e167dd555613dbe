import java.math.BigInteger;
import java.util.ArrayList;
import java.util.List;

/** The edges that the terms of the document name, each sentence with a test of its own. */
public final class EdgesTest {
    private static final Check CHECK = new Check("EdgesTest");
    private static final int ALL_DOTS = 65535;

    /** Eight POINTS that go round DOT 5 three times. */
    private static final int[] STAR = {3, 0, 12, 6, 0, 6, 6, 0, 6, 12, 0, 3, 12, 3, 3, 12};
    /** A path whose RAW of DOT 6 has the greatest lower number that there is. */
    private static final int[] FINE = {8, 1, 11, 2, 0, 9, 6, 9, 10, 4, 1, 11, 10, 3, 8, 4};
    private static final int[] WHOLE_FIELD = {0, 0, 12, 0, 12, 12, 0, 12};

    private static String sentence = "";

    private interface Change {
        void on(DotCover x);
    }

    public static void main(String[] args) {
        dots();
        yGrowsUpwards();
        alikePoints();
        lastToFirst();
        fewerThanThreePoints();
        placesOnThePath();
        turnsTimesTheirArea();
        allTurns();
        everyEdge();
        areaIsAllRaw();
        leastAndGreatestArea();
        lowestTerms();
        ofNothing();
        coverCuts();
        coverFolds();
        coverDropsTheSignLast();
        rulesOfOthers();
        togetherEdges();
        togetherNear();
        enoughAtTheEdge();
        enoughIsExact();
        fieldTies();
        fieldNear();
        bestOfOnePoint();
        bestOfTheWidest();
        bestMostDotsFirst();
        bestLeastDxThenDy();
        bestIsByCover();
        bestHoldsAfterTheMove();
        sameIsByCover();
        sameIsExact();
        asThingsAreWhenAsked();
        CHECK.end();
    }

    // ---- helpers

    private static void sentence(String words) {
        sentence = words;
    }

    private static void due(String call, long got, long want) {
        CHECK.due("\"" + sentence + "\": " + call, got, want);
    }

    private static void holds(String what, boolean held) {
        CHECK.holds("\"" + sentence + "\": " + what, held);
    }

    private static DotCover add(DotCover x, int layer, int... places) {
        for (int i = 0; i < places.length; i += 2) {
            x.point(layer, places[i], places[i + 1]);
        }
        return x;
    }

    private static DotCover with(int layer, int... places) {
        return add(new DotCover(), layer, places);
    }

    private static void dueRaw(DotCover x, int layer, int dot, long up, long low) {
        due("raw(" + layer + ", " + dot + ", 0)", x.raw(layer, dot, 0), up);
        due("raw(" + layer + ", " + dot + ", 1)", x.raw(layer, dot, 1), low);
    }

    private static void dueCover(DotCover x, int layer, int dot, long up, long low) {
        due("cover(" + layer + ", " + dot + ", 0)", x.cover(layer, dot, 0), up);
        due("cover(" + layer + ", " + dot + ", 1)", x.cover(layer, dot, 1), low);
    }

    private static void dueTogether(DotCover x, int dot, long up, long low) {
        due("together(" + dot + ", 0)", x.together(dot, 0), up);
        due("together(" + dot + ", 1)", x.together(dot, 1), low);
    }

    private static void dueArea(DotCover x, int layer, long up, long low) {
        due("area(" + layer + ", 0)", x.area(layer, 0), up);
        due("area(" + layer + ", 1)", x.area(layer, 1), low);
    }

    private static void dueBest(DotCover x, int layer, int dx, int dy, int dots) {
        due("best(" + layer + ", 0)", x.best(layer, 0), 100 + dx);
        due("best(" + layer + ", 1)", x.best(layer, 1), 100 + dy);
        due("best(" + layer + ", 2)", x.best(layer, 2), dots);
    }

    private static void dueField(DotCover x, int greatest, int least, int whole, int none) {
        due("field(0)", x.field(0), greatest);
        due("field(1)", x.field(1), least);
        due("field(2)", x.field(2), whole);
        due("field(3)", x.field(3), none);
    }

    private static BigInteger big(long n) {
        return BigInteger.valueOf(n);
    }

    private static int[] square(int left, int low, int side) {
        return new int[] {left, low, left + side, low, left + side, low + side, left, low + side};
    }

    private static int[] dotSquare(int dot) {
        return square(3 * (dot % 4), 3 * (dot / 4), 3);
    }

    /** Paths of many kinds, by a fixed row of numbers. */
    private static List<int[]> manyPaths() {
        List<int[]> paths = new ArrayList<>(List.of(STAR, FINE, WHOLE_FIELD, square(0, 0, 3), square(1, 1, 4)));
        long row = 12345;
        for (int i = 0; i < 300; i++) {
            int[] path = new int[2 * (3 + i % 6)];
            for (int k = 0; k < path.length; k++) {
                row = (row * 1103515245L + 12345L) & 0x7fffffffL;
                path[k] = (int) (row >> 8) % 13;
            }
            paths.add(path);
        }
        return paths;
    }

    // ---- THE FIELD, DOTS, LAYERS, POINTS

    private static void dots() {
        sentence("DOT d has x from 3 c to 3 c and 3, y from 3 r to 3 r and 3");
        for (int left = 0; left < 12; left++) {
            for (int low = 0; low < 12; low++) {
                DotCover x = with(0, square(left, low, 1));
                for (int dot = 0; dot < 16; dot++) {
                    boolean here = left / 3 == dot % 4 && low / 3 == dot / 4;
                    dueRaw(x, 0, dot, here ? 1 : 0, here ? 9 : 1);
                }
            }
        }
    }

    private static void yGrowsUpwards() {
        sentence("y grows upwards; TURNS: against the clock, less how often with the clock");
        dueRaw(with(0, 0, 0, 3, 0, 0, 3), 0, 0, 1, 2);
        dueRaw(with(0, 0, 0, 0, 3, 3, 0), 0, 0, -1, 2);
        dueRaw(with(0, 0, 9, 3, 9, 0, 12), 0, 12, 1, 2);
        dueRaw(with(0, 9, 0, 9, 3, 12, 0), 0, 3, -1, 2);
    }

    private static void alikePoints() {
        sentence("Two POINTS may be alike");
        DotCover x = new DotCover();
        for (int k = 0; k < 8; k++) {
            due("point(1, 12, 12)", x.point(1, 12, 12), k);
        }
        dueRaw(x, 1, 15, 0, 1);
        dueArea(x, 1, 0, 1);
        dueBest(x, 1, -12, -12, 0);
        DotCover twice = with(0, 0, 0, 0, 0, 3, 0, 3, 0, 3, 0, 0, 3, 0, 3, 0, 0);
        dueRaw(twice, 0, 0, 1, 2);
        due("set to where another is", twice.set(0, 3, 0, 0), 39);
        due("at", twice.at(0, 3, 0), 0);
    }

    private static void lastToFirst() {
        sentence("A PATH goes straight from each POINT to the next one, and from the last one to the first one");
        for (int[] path : manyPaths()) {
            DotCover x = with(0, path);
            DotCover turned = with(0, path);
            DotCover back = with(0, path);
            turned.begin(0, path.length / 4);
            back.back(0);
            for (int dot = 0; dot < 16; dot++) {
                dueRaw(turned, 0, dot, x.raw(0, dot, 0), x.raw(0, dot, 1));
                dueRaw(back, 0, dot, -x.raw(0, dot, 0), x.raw(0, dot, 1));
            }
        }
        // Two sides of a triangle, and the third from the last POINT to the first one.
        DotCover x = with(2, 12, 0, 12, 12, 0, 0);
        dueArea(x, 2, 72, 1);
        dueRaw(x, 2, 15, 1, 2);
        dueRaw(x, 2, 12, 0, 1);
    }

    // ---- TURNS, RAW, AREA

    private static void fewerThanThreePoints() {
        sentence("So a PATH of fewer than three POINTS has RAW 0 everywhere");
        for (int layer = 0; layer < 3; layer++) {
            DotCover x = new DotCover();
            dueNoRaw(x, layer);
            x.point(layer, 0, 0);
            dueNoRaw(x, layer);
            x.point(layer, 12, 12);
            dueNoRaw(x, layer);
            x.point(layer, 0, 1);
            dueRaw(x, layer, 0, 17, 66);
            x.pop(layer);
            dueNoRaw(x, layer);
        }
        for (int place = 0; place < 169; place++) {
            DotCover y = with(0, place / 13, place % 13, 0, 0);
            for (int other = 0; other < 169; other++) {
                y.set(0, 1, other / 13, other % 13);
                due("area of two", y.area(0, 0), 0);
                due("dots of two", y.enough(0, 1, 99), 0);
            }
        }
    }

    private static void dueNoRaw(DotCover x, int layer) {
        for (int dot = 0; dot < 16; dot++) {
            dueRaw(x, layer, dot, 0, 1);
            dueCover(x, layer, dot, 0, 1);
        }
        dueArea(x, layer, 0, 1);
    }

    private static void placesOnThePath() {
        sentence("Places on it have no area");
        dueNoRaw(with(0, 1, 2, 11, 7, 1, 2), 0);
        dueNoRaw(with(0, 0, 0, 4, 5, 8, 10), 0);
        dueNoRaw(with(0, 0, 3, 12, 3, 3, 3, 9, 3), 0);
        dueNoRaw(with(0, 1, 2, 11, 7, 3, 12, 11, 7), 0);
        // Sides that lie on a DOT's side belong to neither of two DOTS.
        DotCover x = with(0, square(3, 3, 6));
        due("wholly covered", x.enough(0, 1, 1), 1 << 5 | 1 << 6 | 1 << 9 | 1 << 10);
        due("covered at all", x.enough(0, 1, 99), 1 << 5 | 1 << 6 | 1 << 9 | 1 << 10);
    }

    private static void turnsTimesTheirArea() {
        sentence("RAW: for each number t the area of the part whose places have t TURNS, times t, all added, by 9");
        // 2 TURNS in a ninth of the DOT, 1 in the rest.
        dueRaw(with(0, 0, 0, 3, 0, 3, 3, 0, 3, 0, 0, 1, 0, 1, 1, 0, 1), 0, 0, 10, 9);
        // 0 TURNS in a ninth, 1 in the rest.
        dueRaw(with(0, 0, 0, 3, 0, 3, 3, 0, 3, 0, 0, 0, 1, 1, 1, 1, 0), 0, 0, 8, 9);
        // 1 and -1, each in a quarter of the DOT.
        dueRaw(with(0, 0, 0, 3, 3, 3, 0, 0, 3), 0, 0, 0, 1);
        // 1 in a third, -1 in another part of another size.
        dueRaw(with(0, 0, 0, 1, 0, 1, 3, 0, 3, 0, 0, 2, 1, 2, 2, 3, 1), 0, 0, 2, 9);
        // A twist between two DOTS: above 0 in one, below 0 in the other.
        DotCover x = with(0, 0, 0, 6, 3, 6, 0, 0, 3);
        dueRaw(x, 0, 0, 1, 2);
        dueRaw(x, 0, 1, -1, 2);
    }

    private static void allTurns() {
        sentence("how often the PATH goes round it");
        DotCover x = with(1, STAR);
        dueRaw(x, 1, 5, 3, 1);
        x.back(1);
        dueRaw(x, 1, 5, -3, 1);
        DotCover two = with(0, 0, 0, 12, 0, 0, 12, 0, 0, 12, 0, 0, 12);
        dueRaw(two, 0, 0, 2, 1);
        dueRaw(two, 0, 6, 1, 1);
        two.back(0);
        dueRaw(two, 0, 0, -2, 1);
        dueRaw(two, 0, 6, -1, 1);
    }

    /**
     * Every straight line between two POINTS, with what is left of it up to x = 0. Each RAW is a whole number
     * of 1/498960, so one whose lower number divides that and that is nearer than 0.000001 is the right one.
     */
    private static void everyEdge() {
        sentence("how much of each dot a path goes round is told exactly, as a fraction");
        for (int edge = 0; edge < 13 * 13 * 13 * 13; edge++) {
            int x1 = edge % 13;
            int y1 = edge / 13 % 13;
            int x2 = edge / 169 % 13;
            int y2 = edge / 2197;
            DotCover x = with(0, x1, y1, x2, y2, 0, y2, 0, y1);
            for (int dot = 0; dot < 16; dot++) {
                long up = x.raw(0, dot, 0);
                long low = x.raw(0, dot, 1);
                double want = leftOf(x1, y1, x2, y2, 3 * (dot % 4), 3 * (dot / 4)) / 9;
                boolean right = low > 0 && 498960 % low == 0 && Math.abs((double) up / low - want) < 1e-6;
                if (!right) {
                    due("raw of dot " + dot + " by (" + x1 + ", " + y1 + ") to (" + x2 + ", " + y2 + "): " + up + " by "
                            + low + ", near " + want, 0, 1);
                }
            }
            due("points", x.count(0), 4);
        }
    }

    /** The area of a DOT to the left of a line, below 0 if it goes down: the middle of each piece, times its height. */
    private static double leftOf(int x1, int y1, int x2, int y2, int left, int low) {
        if (y1 > y2) {
            return -leftOf(x2, y2, x1, y1, left, low);
        }
        double from = Math.max(y1, low);
        double to = Math.min(y2, low + 3);
        if (from >= to) {
            return 0;
        }
        // Between the heights at which the line meets the DOT's two upright sides it is straight within the DOT.
        double slope = (double) (x2 - x1) / (y2 - y1);
        double meetsLeft = slope == 0 ? from : between(y1 + (left - x1) / slope, from, to);
        double meetsRight = slope == 0 ? from : between(y1 + (left + 3 - x1) / slope, from, to);
        double[] heights = {from, Math.min(meetsLeft, meetsRight), Math.max(meetsLeft, meetsRight), to};
        double sum = 0;
        for (int i = 0; i < 3; i++) {
            double middle = x1 + slope * ((heights[i] + heights[i + 1]) / 2 - y1);
            sum += between(middle - left, 0, 3) * (heights[i + 1] - heights[i]);
        }
        return sum;
    }

    private static double between(double n, double least, double most) {
        return Math.max(least, Math.min(most, n));
    }

    private static void areaIsAllRaw() {
        sentence("AREA of a PATH: RAW of all DOTS, added, times 9");
        for (int[] path : manyPaths()) {
            DotCover x = with(2, path);
            BigInteger up = BigInteger.ZERO;
            BigInteger low = BigInteger.ONE;
            for (int dot = 0; dot < 16; dot++) {
                BigInteger dotLow = big(x.raw(2, dot, 1));
                up = up.multiply(dotLow).add(big(x.raw(2, dot, 0)).multiply(low));
                low = low.multiply(dotLow);
            }
            up = up.multiply(big(9));
            BigInteger divisor = up.gcd(low);
            dueArea(x, 2, up.divide(divisor).longValueExact(), low.divide(divisor).longValueExact());
        }
    }

    private static void leastAndGreatestArea() {
        sentence("AREA of a PATH");
        dueArea(with(0, 0, 0, 1, 0, 0, 1), 0, 1, 2);
        dueArea(with(0, 12, 12, 12, 11, 11, 12), 0, -1, 2);
        dueArea(with(0, 0, 0, 12, 11, 11, 10), 0, -1, 2);
        dueArea(with(0, WHOLE_FIELD), 0, 144, 1);
        DotCover twice = add(with(0, WHOLE_FIELD), 0, WHOLE_FIELD);
        dueArea(twice, 0, 288, 1);
        twice.back(0);
        dueArea(twice, 0, -288, 1);
        // AREA has no RULE.
        twice.rule(0, 1);
        dueArea(twice, 0, -288, 1);
        dueRaw(twice, 0, 15, -2, 1);
    }

    // ---- fractions

    private static void lowestTerms() {
        sentence("Fractions are told in lowest terms by part: 0 the upper number, 1 the lower one, above 0");
        for (int[] path : manyPaths()) {
            DotCover x = with(0, path);
            add(x, 1, FINE);
            add(x, 2, 1, 0, 12, 5, 3, 11);
            x.rule(0, path.length / 2 % 2);
            for (int dot = 0; dot < 16; dot++) {
                lowest("raw " + dot, x.raw(0, dot, 0), x.raw(0, dot, 1));
                lowest("cover " + dot, x.cover(0, dot, 0), x.cover(0, dot, 1));
                lowest("together " + dot, x.together(dot, 0), x.together(dot, 1));
                within("cover " + dot, x.cover(0, dot, 0), x.cover(0, dot, 1));
                within("together " + dot, x.together(dot, 0), x.together(dot, 1));
            }
            lowest("area", x.area(0, 0), x.area(0, 1));
        }
    }

    private static void lowest(String what, long up, long low) {
        holds(what + " " + up + " by " + low, low > 0 && big(up).gcd(big(low)).equals(BigInteger.ONE));
    }

    /** From nothing to all of it. */
    private static void within(String what, long up, long low) {
        holds(what + " " + up + " by " + low + " is from 0 to 1", up >= 0 && up <= low);
    }

    private static void ofNothing() {
        sentence("of 0: 0 by 1");
        DotCover x = new DotCover();
        dueRaw(x, 0, 0, 0, 1);
        dueCover(x, 0, 0, 0, 1);
        dueTogether(x, 0, 0, 1);
        dueArea(x, 0, 0, 1);
        // 0 by way of TURNS that take each other away, and of 2 that RULE 1 takes away.
        DotCover eight = with(0, 0, 0, 3, 3, 3, 0, 0, 3);
        dueRaw(eight, 0, 0, 0, 1);
        dueCover(eight, 0, 0, 0, 1);
        dueTogether(eight, 0, 0, 1);
        dueArea(eight, 0, 0, 1);
        DotCover twice = add(with(0, WHOLE_FIELD), 0, WHOLE_FIELD);
        twice.rule(0, 1);
        dueCover(twice, 0, 9, 0, 1);
        dueTogether(twice, 9, 0, 1);
        sentence("in lowest terms, a whole number by 1");
        dueRaw(twice, 0, 9, 2, 1);
        twice.rule(0, 0);
        dueCover(twice, 0, 9, 1, 1);
        dueTogether(twice, 9, 1, 1);
        dueArea(twice, 0, 288, 1);
    }

    // ---- COVER

    /** RAW of DOT 5: each row a path, RAW's two numbers, COVER's by RULE 1. */
    private static final int[][][] RAWS_OF_5 = {
        {{3, 3, 4, 3, 3, 4}, {1, 18}, {1, 18}},
        {{3, 3, 6, 3, 6, 6, 4, 6, 3, 5}, {17, 18}, {17, 18}},
        {{3, 3, 6, 3, 6, 6, 3, 6}, {1, 1}, {1, 1}},
        {{3, 3, 6, 3, 6, 6, 3, 6, 3, 3, 4, 3, 3, 4}, {19, 18}, {17, 18}},
        {{3, 3, 6, 3, 6, 6, 3, 6, 3, 3, 6, 3, 3, 6}, {3, 2}, {1, 2}},
        {{0, 0, 12, 0, 0, 12, 0, 0, 11, 0, 0, 11}, {35, 18}, {1, 18}},
        {{3, 3, 6, 3, 6, 6, 3, 6, 3, 3, 6, 3, 6, 6, 3, 6}, {2, 1}, {0, 1}},
        {{3, 0, 12, 6, 0, 6, 6, 0, 10, 4, 5, 6, 12, 3, 3, 12}, {1261, 630}, {1, 630}},
        {{2, 4, 12, 6, 0, 6, 6, 0, 6, 12, 0, 3, 12, 3, 3, 12}, {5, 2}, {1, 2}},
        {{3, 0, 12, 10, 0, 6, 6, 0, 6, 12, 0, 3, 12, 3, 3, 12}, {539, 180}, {179, 180}},
        {{3, 0, 12, 6, 0, 6, 6, 0, 6, 12, 0, 3, 12, 3, 3, 12}, {3, 1}, {1, 1}},
    };

    private static void coverCuts() {
        sentence("COVER by RULE 0: RAW without its sign, but 1 at most");
        for (int[][] row : RAWS_OF_5) {
            DotCover x = with(1, row[0]);
            boolean most = row[1][0] >= row[1][1];
            dueRaw(x, 1, 5, row[1][0], row[1][1]);
            dueCover(x, 1, 5, most ? 1 : row[1][0], most ? 1 : row[1][1]);
            x.back(1);
            dueRaw(x, 1, 5, -row[1][0], row[1][1]);
            dueCover(x, 1, 5, most ? 1 : row[1][0], most ? 1 : row[1][1]);
        }
    }

    private static void coverFolds() {
        sentence("COVER by RULE 1: less 2 as often as it is 2 or more, and if what is left is above 1, 2 less that");
        for (int[][] row : RAWS_OF_5) {
            DotCover x = with(1, row[0]);
            x.rule(1, 1);
            dueRaw(x, 1, 5, row[1][0], row[1][1]);
            dueCover(x, 1, 5, row[2][0], row[2][1]);
            x.back(1);
            dueRaw(x, 1, 5, -row[1][0], row[1][1]);
            dueCover(x, 1, 5, row[2][0], row[2][1]);
        }
    }

    private static void coverDropsTheSignLast() {
        sentence("RAW without its sign");
        // RAW is all added first, so parts above and below 0 take each other away in COVER too.
        DotCover x = with(0, 0, 0, 1, 0, 1, 3, 0, 3, 0, 0, 2, 1, 2, 2, 3, 1);
        dueCover(x, 0, 0, 2, 9);
        x.back(0);
        dueRaw(x, 0, 0, -2, 9);
        dueCover(x, 0, 0, 2, 9);
        x.rule(0, 1);
        dueCover(x, 0, 0, 2, 9);
    }

    private static void rulesOfOthers() {
        sentence("each LAYER has a RULE");
        for (int layer = 0; layer < 3; layer++) {
            DotCover x = new DotCover();
            for (int each = 0; each < 3; each++) {
                add(x, each, RAWS_OF_5[6][0]);
            }
            x.rule(layer, 1);
            for (int each = 0; each < 3; each++) {
                dueCover(x, each, 5, each == layer ? 0 : 1, 1);
            }
            dueTogether(x, 5, 1, 1);
            x.rule((layer + 1) % 3, 1);
            dueTogether(x, 5, 1, 1);
            x.rule((layer + 2) % 3, 1);
            dueTogether(x, 5, 0, 1);
        }
    }

    // ---- TOGETHER

    private static void togetherEdges() {
        sentence("TOGETHER: 1, less (1 less COVER by LAYER 0) times (..LAYER 1) times (..LAYER 2)");
        int[] half = {0, 0, 3, 0, 0, 3};
        int[] third = {0, 0, 3, 0, 0, 2};
        int[] whole = dotSquare(0);
        for (int layer = 0; layer < 3; layer++) {
            DotCover x = with(layer, half);
            dueTogether(x, 0, 1, 2);
            add(x, (layer + 1) % 3, third);
            dueTogether(x, 0, 2, 3);
            // The same half again is half of what is left, wherever it lies.
            add(x, (layer + 2) % 3, half);
            dueTogether(x, 0, 5, 6);
            dueTogether(x, 1, 0, 1);
            DotCover y = with(layer, whole);
            dueTogether(y, 0, 1, 1);
            add(y, (layer + 1) % 3, third);
            dueTogether(y, 0, 1, 1);
        }
    }

    private static void togetherNear() {
        sentence("TOGETHER, told exactly");
        DotCover x = new DotCover();
        for (int layer = 0; layer < 3; layer++) {
            add(x, layer, 3, 3, 6, 3, 6, 6, 4, 6, 3, 5);
        }
        dueTogether(x, 5, 5831, 5832);
        DotCover fine = new DotCover();
        for (int layer = 0; layer < 3; layer++) {
            add(fine, layer, FINE);
        }
        dueTogether(fine, 6, 83542786152715441L, 124221621275136000L);
    }

    // ---- enough

    private static void enoughAtTheEdge() {
        sentence("enough: whose COVER by a LAYER is up by low or more");
        // DOT 0 has 7/24, DOT 1 has 5/24, DOT 2 has 3/24, DOT 3 has 1/24.
        DotCover x = with(1, 0, 0, 12, 0, 0, 1);
        due("7 by 24", x.enough(1, 7, 24), 1);
        due("28 by 96", x.enough(1, 28, 96), 1);
        due("29 by 99", x.enough(1, 29, 99), 0);
        due("1 by 8", x.enough(1, 1, 8), 7);
        due("12 by 95", x.enough(1, 12, 95), 3);
        due("1 by 24", x.enough(1, 1, 24), 15);
        due("4 by 95", x.enough(1, 4, 95), 7);
        due("0 by 1", x.enough(1, 0, 1), ALL_DOTS);
        due("1 by 1", x.enough(1, 1, 1), 0);
        for (int dot = 0; dot < 16; dot++) {
            DotCover y = with(2, dotSquare(dot));
            due("1 by 1, dot " + dot, y.enough(2, 1, 1), 1 << dot);
            due("99 by 99, dot " + dot, y.enough(2, 99, 99), 1 << dot);
            due("other layer, dot " + dot, y.enough(1, 1, 99), 0);
        }
        due("all", with(0, WHOLE_FIELD).enough(0, 1, 1), ALL_DOTS);
    }

    private static void enoughIsExact() {
        sentence("enough, by every up and low");
        for (int[] path : new int[][] {FINE, STAR, {1, 0, 12, 5, 3, 11}}) {
            DotCover x = with(0, path);
            long[] up = new long[16];
            long[] low = new long[16];
            for (int dot = 0; dot < 16; dot++) {
                up[dot] = x.cover(0, dot, 0);
                low[dot] = x.cover(0, dot, 1);
            }
            for (int l = 1; l <= 99; l++) {
                // So many objects that none is asked more than 512 times.
                DotCover y = with(0, path);
                for (int u = 0; u <= l; u++) {
                    int want = 0;
                    for (int dot = 0; dot < 16; dot++) {
                        want |= big(up[dot]).multiply(big(l)).compareTo(big(u).multiply(big(low[dot]))) >= 0 ? 1 << dot : 0;
                    }
                    due("enough(0, " + u + ", " + l + ")", y.enough(0, u, l), want);
                }
            }
        }
    }

    // ---- field

    private static void fieldTies() {
        sentence("field: TOGETHER is greatest, of such the least; least, of such the least number; how many 1, how many 0");
        dueField(new DotCover(), 0, 0, 0, 16);
        dueField(with(1, WHOLE_FIELD), 0, 0, 16, 0);
        for (int dot = 0; dot < 16; dot++) {
            dueField(with(0, dotSquare(dot)), dot, dot == 0 ? 1 : 0, 1, 15);
            dueField(allBut(dot), dot == 0 ? 1 : 0, dot, 15, 1);
        }
        DotCover two = with(0, dotSquare(13));
        add(two, 1, dotSquare(7));
        dueField(two, 7, 0, 2, 14);
        add(two, 2, dotSquare(0));
        dueField(two, 0, 1, 3, 13);
        // All but 14 and 15 are whole; 14 and 15 are alike.
        dueField(with(0, 0, 0, 12, 0, 12, 9, 6, 9, 6, 12, 0, 12), 0, 14, 14, 2);
        // All but 15 is whole, and 15 is not all 0.
        dueField(with(0, 0, 0, 12, 0, 12, 11, 11, 12, 0, 12), 0, 15, 15, 0);
        // All LAYERS are asked, the third one too.
        DotCover layers = with(2, 9, 9, 12, 9, 9, 12);
        dueField(layers, 15, 0, 0, 15);
        add(layers, 0, 9, 9, 12, 9, 12, 12);
        dueTogether(layers, 15, 3, 4);
        dueField(layers, 15, 0, 0, 15);
    }

    /** LAYERS 0 and 1 cover what is left and right of a DOT, LAYER 2 what is below and above it. */
    private static DotCover allBut(int dot) {
        int left = 3 * (dot % 4);
        int low = 3 * (dot / 4);
        DotCover x = with(0, 0, 0, left, 0, left, 12, 0, 12);
        add(x, 1, left + 3, 0, 12, 0, 12, 12, left + 3, 12);
        return add(x, 2, left, 0, left + 3, 0, left + 3, low, left, low, left, 12, left + 3, 12, left + 3, low + 3,
                left, low + 3);
    }

    private static int[] back(int[] path) {
        int[] other = new int[path.length];
        for (int i = 0; i < path.length; i += 2) {
            // The first POINT stays the first one.
            int from = i == 0 ? 0 : path.length - i;
            other[i] = path[from];
            other[i + 1] = path[from + 1];
        }
        return other;
    }

    private static void fieldNear() {
        sentence("field, by TOGETHER told exactly");
        DotCover x = new DotCover();
        for (int layer = 0; layer < 3; layer++) {
            add(x, layer, 3, 3, 6, 3, 6, 6, 4, 6, 3, 5);
        }
        dueField(x, 5, 0, 0, 15);
        // DOT 5 lacks 1/324, DOT 10 nothing.
        DotCover whole = with(0, 3, 3, 6, 3, 6, 6, 4, 6, 3, 5);
        add(whole, 1, 3, 3, 6, 3, 6, 6, 4, 6, 3, 5);
        add(whole, 2, dotSquare(10));
        dueField(whole, 10, 0, 1, 14);
        // A sliver is more than nothing: from (0, 0) to (12, 11), and (11, 10) beside it.
        DotCover sliver = with(0, 0, 0, 12, 11, 11, 10);
        due("dots with nothing", sliver.field(3), 16 - Integer.bitCount(touched(sliver)));
        due("dots with all", sliver.field(2), 0);
        due("touched", touched(sliver), 1 | 1 << 1 | 1 << 5 | 1 << 6 | 1 << 10 | 1 << 11 | 1 << 15);
        due("the least without any", sliver.field(1), 2);
    }

    private static int touched(DotCover x) {
        int dots = 0;
        for (int dot = 0; dot < 16; dot++) {
            dots |= x.raw(0, dot, 0) != 0 ? 1 << dot : 0;
        }
        return dots;
    }

    // ---- BEST

    private static void bestOfOnePoint() {
        sentence("BEST: of all dx and dy, -12 to 12 each, by which all its POINTS stay in THE FIELD");
        for (int px = 0; px <= 12; px++) {
            for (int py = 0; py <= 12; py++) {
                DotCover x = with(0, px, py);
                dueBest(x, 0, -px, -py, 0);
                due("move there", x.move(0, -px, -py), 1);
            }
        }
        dueBest(with(1, 12, 3, 4, 12), 1, -4, -3, 0);
        dueBest(with(1, 12, 0, 0, 12), 1, 0, 0, 0);
    }

    private static void bestOfTheWidest() {
        sentence("BEST of a PATH that cannot be MOVED");
        dueBest(with(0, WHOLE_FIELD), 0, 0, 0, 16);
        dueBest(with(0, 0, 0, 12, 0, 12, 12), 0, 0, 0, 6);
        // As wide as THE FIELD: dy alone is free; as high: dx alone.
        dueBest(with(0, 0, 1, 12, 1, 12, 4, 0, 4), 0, 0, -1, 4);
        dueBest(with(0, 8, 0, 11, 0, 11, 12, 8, 12), 0, -8, 0, 4);
        // Not wide enough to cover a DOT, wherever it lies: the least dx and dy all the same.
        dueBest(with(0, square(9, 9, 2)), 0, -9, -9, 0);
        dueBest(with(0, square(10, 10, 2)), 0, -10, -10, 0);
    }

    private static void bestMostDotsFirst() {
        sentence("BEST: those by which most DOTS have COVER 1");
        // A square of 3 by 3, with a spur of n to the left, then downwards, that keeps it off the first DOTS.
        for (int spur = 1; spur <= 9; spur++) {
            int first = (spur + 2) / 3 * 3;
            DotCover x = with(0, 0, 0, spur, 0, spur + 3, 0, spur + 3, 3, spur, 3, spur, 0);
            dueBest(x, 0, first - spur, 0, 1);
            DotCover y = with(0, 0, 0, 0, spur, 3, spur, 3, spur + 3, 0, spur + 3, 0, spur);
            dueBest(y, 0, 0, first - spur, 1);
        }
        // 6 by 3 with a spur of 1: one DOT nearer, two DOTS farther.
        dueBest(with(1, 0, 0, 1, 0, 7, 0, 7, 3, 1, 3, 1, 0), 1, 2, 0, 2);
    }

    private static void bestLeastDxThenDy() {
        sentence("BEST: of such the least dx, of such the least dy");
        // A single DOT fits in 16 places; the least of them is (0, 0), wherever it starts.
        for (int left = 0; left <= 9; left++) {
            for (int low = 0; low <= 9; low++) {
                dueBest(with(2, square(left, low, 3)), 2, -left, -low, 1);
            }
        }
        // 4 by 4 covers one DOT in many places, two dx and two dy for each DOT.
        dueBest(with(2, square(5, 6, 4)), 2, -5, -6, 1);
        // 5 by 3: the least dx of three, the only dy.
        dueBest(with(2, 4, 5, 9, 5, 9, 8, 4, 8), 2, -4, -5, 1);
        // Two DOTS aslant, the second one at the right above: dx and dy go by the same least corner.
        dueBest(with(0, 4, 4, 7, 4, 7, 7, 10, 7, 10, 10, 7, 10, 7, 7, 4, 7), 0, -4, -4, 2);
    }

    private static void bestIsByCover() {
        sentence("BEST: COVER 1, by the LAYER's RULE, whichever way round");
        DotCover x = with(0, square(4, 4, 3));
        x.back(0);
        dueBest(x, 0, -4, -4, 1);
        x.rule(0, 1);
        dueBest(x, 0, -4, -4, 1);
        // Twice round: COVER 1 by RULE 0 and 0 by RULE 1.
        DotCover twice = add(with(0, square(4, 4, 3)), 0, square(4, 4, 3));
        dueBest(twice, 0, -4, -4, 1);
        twice.rule(0, 1);
        dueBest(twice, 0, -4, -4, 0);
        // By RULE 1 RAW 3 counts, RAW 2 does not.
        DotCover star = with(0, STAR);
        dueBest(star, 0, 0, 0, star.best(0, 2));
        due("dots by RULE 0", star.best(0, 2), Integer.bitCount(star.enough(0, 1, 1)));
        star.rule(0, 1);
        due("dots by RULE 1", star.best(0, 2), Integer.bitCount(star.enough(0, 1, 1)));
        // Other LAYERS have no part in it.
        add(star, 1, WHOLE_FIELD);
        dueBest(star, 0, 0, 0, Integer.bitCount(star.enough(0, 1, 1)));
    }

    private static void bestHoldsAfterTheMove() {
        sentence("best: how many DOTS have COVER 1 then");
        for (int[] path : manyPaths()) {
            DotCover x = with(1, path);
            x.rule(1, path[0] % 2);
            int dots = x.best(1, 2);
            int here = Integer.bitCount(x.enough(1, 1, 1));
            holds("no fewer than here", dots >= here);
            int moved = x.move(1, x.best(1, 0) - 100, x.best(1, 1) - 100);
            due("the move is taken", moved, path.length / 2);
            due("dots then", Integer.bitCount(x.enough(1, 1, 1)), dots);
            dueBest(x, 1, 0, 0, dots);
        }
    }

    // ---- same

    private static void sameIsByCover() {
        sentence("same: The set of DOTS whose COVER by two LAYERS (or by one) is the same");
        // RAW -1, 1, 2 and 3 are the same COVER by RULE 0.
        int[][] ones = {RAWS_OF_5[2][0], RAWS_OF_5[6][0], back(RAWS_OF_5[2][0]), RAWS_OF_5[10][0], RAWS_OF_5[5][0]};
        for (int[] one : ones) {
            for (int[] other : ones) {
                DotCover x = with(0, one);
                add(x, 2, other);
                due("dot 5", x.same(0, 2) >> 5 & 1, 1);
            }
        }
        // RAW 1/18 and 35/18 are the same by RULE 1, 1/18 and 35/18 by RULE 0 are not.
        DotCover x = with(0, RAWS_OF_5[0][0]);
        add(x, 1, RAWS_OF_5[5][0]);
        due("dot 5", x.same(0, 1) >> 5 & 1, 0);
        x.rule(1, 1);
        due("dot 5", x.same(0, 1) >> 5 & 1, 1);
        due("dot 5", x.same(1, 0) >> 5 & 1, 1);
        for (int dot = 0; dot < 16; dot++) {
            DotCover y = with(1, dotSquare(dot));
            due("all but dot " + dot, y.same(0, 1), ALL_DOTS - (1 << dot));
            due("by one", y.same(1, 1), ALL_DOTS);
            due("none and none", y.same(0, 2), ALL_DOTS);
        }
        DotCover all = with(0, WHOLE_FIELD);
        due("all and none", all.same(0, 1), 0);
    }

    private static void sameIsExact() {
        sentence("same, told exactly");
        for (int[] path : manyPaths()) {
            DotCover x = with(0, path);
            add(x, 1, path);
            x.begin(1, 1);
            x.back(1);
            due("the same path the other way round", x.same(0, 1), ALL_DOTS);
            add(x, 2, FINE);
            int want = 0;
            for (int dot = 0; dot < 16; dot++) {
                boolean alike = x.cover(0, dot, 0) == x.cover(2, dot, 0) && x.cover(0, dot, 1) == x.cover(2, dot, 1);
                want |= alike ? 1 << dot : 0;
            }
            due("another path", x.same(0, 2), want);
        }
    }

    // ---- all that is told

    /** An object that has been asked before a change tells what one that has not been asked tells. */
    private static void asThingsAreWhenAsked() {
        sentence("All that is told is as things are when it is asked");
        List<Change> changes = List.of(x -> x.point(1, 12, 12), x -> x.pop(1), x -> x.set(1, 0, 9, 1),
                x -> x.rule(1, 1), x -> x.move(1, 1, 2), x -> x.back(1), x -> x.begin(1, 2), x -> x.image(0),
                x -> x.restore(0), x -> x.restore(1));
        for (int i = 0; i < changes.size(); i++) {
            DotCover asked = drawn();
            askAll(asked);
            changes.get(i).on(asked);
            DotCover fresh = drawn();
            changes.get(i).on(fresh);
            due("change " + i + ", field and best", askAll(asked), askAll(fresh));
            List<String> got = Told.by(asked);
            List<String> want = Told.by(fresh);
            holds("change " + i + ": " + got + " and not " + want, got.equals(want));
        }
    }

    private static DotCover drawn() {
        DotCover x = with(0, 1, 1, 7, 2, 5, 10);
        x.image(0);
        add(x, 1, 2, 3, 9, 0, 11, 8, 4, 10, 9, 0, 11, 8);
        x.rule(0, 1);
        x.image(1);
        add(x, 2, WHOLE_FIELD);
        x.pop(2);
        return x;
    }

    private static long askAll(DotCover x) {
        long sum = 0;
        for (int layer = 0; layer < 3; layer++) {
            for (int what = 0; what < 3; what++) {
                sum = 31 * sum + x.best(layer, what);
                sum = 31 * sum + x.same(layer, what);
            }
            sum = 31 * sum + x.enough(layer, 1, 2);
            sum = 31 * sum + x.area(layer, 0);
            sum = 31 * sum + x.cover(layer, 5, 0);
            sum = 31 * sum + x.raw(layer, 6, 0);
        }
        for (int what = 0; what < 4; what++) {
            sum = 31 * sum + x.field(what);
            sum = 31 * sum + x.together(5 * what, 0);
        }
        return sum;
    }
}
