/** Worked examples, edges and wrong inputs, promise by promise. */
public final class PromisesTest {
    private static final Check CHECK = new Check("PromisesTest");
    private static final int MIN = Integer.MIN_VALUE;
    private static final int MAX = Integer.MAX_VALUE;
    private static final int UNKNOWN = -1;
    private static final int OUTSIDE = -2;
    private static final int STATE = -3;
    private static final int FULL = -4;
    private static final int NO = -5;
    private static final int NONE = -6;
    private static final long BELOW_UNKNOWN = -1000000000000000001L;
    private static final long BELOW_OUTSIDE = -1000000000000000002L;
    private static final int ALL_DOTS = 65535;
    private static final int[] NO_LAYERS = {-1, 3, MIN, MAX};
    private static final int[] NO_DOTS = {-1, 16, MIN, MAX};
    private static final int[] NO_PARTS = {-1, 2, MIN, MAX};

    public static void main(String[] args) {
        newObject();
        point();
        pop();
        set();
        rule();
        move();
        moveRefused();
        back();
        begin();
        at();
        raw();
        rawCountsTurns();
        greatestLowerNumbers();
        rawRefused();
        cover();
        coverFolds();
        together();
        area();
        enough();
        field();
        best();
        bestBreaksTies();
        same();
        image();
        restore();
        count();
        refusedChangesNothing();
        CHECK.end();
    }

    private static void due(String call, long got, long want) {
        CHECK.due(call, got, want);
    }

    /** A new object, with one path on a layer: x, y, x, y, .. */
    private static DotCover with(int layer, int... places) {
        return add(new DotCover(), layer, places);
    }

    private static DotCover add(DotCover x, int layer, int... places) {
        for (int i = 0; i < places.length; i += 2) {
            x.point(layer, places[i], places[i + 1]);
        }
        return x;
    }

    private static void dueRaw(DotCover x, int layer, int dot, long up, long low) {
        CHECK.due("raw(" + layer + ", " + dot + ")", x.raw(layer, dot, 0), x.raw(layer, dot, 1), up, low);
    }

    private static void dueCover(DotCover x, int layer, int dot, long up, long low) {
        CHECK.due("cover(" + layer + ", " + dot + ")", x.cover(layer, dot, 0), x.cover(layer, dot, 1), up, low);
    }

    private static void dueTogether(DotCover x, int dot, long up, long low) {
        CHECK.due("together(" + dot + ")", x.together(dot, 0), x.together(dot, 1), up, low);
    }

    private static void dueArea(DotCover x, int layer, long up, long low) {
        CHECK.due("area(" + layer + ")", x.area(layer, 0), x.area(layer, 1), up, low);
    }

    private static void duePath(DotCover x, int layer, int... places) {
        due("points of " + layer, x.count(layer), places.length / 2);
        for (int i = 0; i < places.length; i += 2) {
            due("x of " + i / 2, x.at(layer, i / 2, 0), places[i]);
            due("y of " + i / 2, x.at(layer, i / 2, 1), places[i + 1]);
        }
    }

    private static void newObject() {
        DotCover x = new DotCover();
        for (int layer = 0; layer < 3; layer++) {
            due("new count", x.count(layer), 0);
            due("new rule", x.count(10 + layer), 0);
            dueArea(x, layer, 0, 1);
            for (int dot = 0; dot < 16; dot++) {
                dueRaw(x, layer, dot, 0, 1);
                dueCover(x, layer, dot, 0, 1);
                dueTogether(x, dot, 0, 1);
            }
        }
        due("new count(3)", x.count(3), 0);
        due("new count(4)", x.count(4), 0);
        due("new restore(0)", x.restore(0), STATE);
        due("new restore(1)", x.restore(1), STATE);
    }

    private static void point() {
        DotCover x = new DotCover();
        for (int k = 0; k < 8; k++) {
            due("point", x.point(1, k, 12 - k), k);
        }
        due("ninth point", x.point(1, 0, 0), FULL);
        due("ninth point, outside", x.point(1, 0, 13), OUTSIDE);
        due("other layer", x.point(0, 0, 12), 0);
        due("other layer", x.point(2, 12, 0), 0);
        due("alike", x.point(2, 12, 0), 1);
        for (int wrong : new int[] {-1, 13, MIN, MAX}) {
            due("x " + wrong, x.point(0, wrong, 0), OUTSIDE);
            due("y " + wrong, x.point(0, 0, wrong), OUTSIDE);
        }
        for (int layer : NO_LAYERS) {
            due("no layer", x.point(layer, 0, 0), UNKNOWN);
            due("no layer, outside", x.point(layer, 13, -1), UNKNOWN);
        }
        duePath(x, 0, 0, 12);
        duePath(x, 1, 0, 12, 1, 11, 2, 10, 3, 9, 4, 8, 5, 7, 6, 6, 7, 5);
        duePath(x, 2, 12, 0, 12, 0);
    }

    private static void pop() {
        DotCover x = with(1, 1, 2, 3, 4, 5, 6);
        due("pop of none", x.pop(0), STATE);
        due("pop", x.pop(1), 2);
        duePath(x, 1, 1, 2, 3, 4);
        due("pop", x.pop(1), 1);
        due("pop", x.pop(1), 0);
        due("pop of none", x.pop(1), STATE);
        due("point again", x.point(1, 7, 8), 0);
        duePath(x, 1, 7, 8);
        for (int layer : NO_LAYERS) {
            due("no layer", x.pop(layer), UNKNOWN);
        }
    }

    private static void set() {
        DotCover x = with(2, 1, 2, 12, 12, 0, 0);
        due("set", x.set(2, 0, 5, 6), 13 + 2);
        due("set", x.set(2, 1, 0, 12), 13 * 12 + 12);
        due("set", x.set(2, 2, 12, 0), 0);
        due("set", x.set(2, 0, 5, 6), 13 * 5 + 6);
        duePath(x, 2, 5, 6, 0, 12, 12, 0);
        for (int k : new int[] {-1, 3, 8, MIN, MAX}) {
            due("no point", x.set(2, k, 0, 0), UNKNOWN);
            due("no point, outside", x.set(2, k, 13, 0), UNKNOWN);
        }
        for (int wrong : new int[] {-1, 13, MIN, MAX}) {
            due("x " + wrong, x.set(2, 0, wrong, 0), OUTSIDE);
            due("y " + wrong, x.set(2, 0, 0, wrong), OUTSIDE);
        }
        for (int layer : NO_LAYERS) {
            due("no layer", x.set(layer, 0, 0, 0), UNKNOWN);
        }
        x.pop(2);
        due("set of what was popped", x.set(2, 2, 0, 0), UNKNOWN);
    }

    private static void rule() {
        DotCover x = new DotCover();
        due("rule", x.rule(1, 1), 0);
        due("rule", x.rule(1, 1), 1);
        due("other rule", x.count(10), 0);
        due("this rule", x.count(11), 1);
        due("other rule", x.count(12), 0);
        due("rule", x.rule(1, 0), 1);
        due("rule", x.rule(1, 0), 0);
        for (int wrong : new int[] {-1, 2, MIN, MAX}) {
            due("rule " + wrong, x.rule(0, wrong), OUTSIDE);
        }
        for (int layer : NO_LAYERS) {
            due("no layer", x.rule(layer, 0), UNKNOWN);
            due("no layer, outside", x.rule(layer, 2), UNKNOWN);
        }
    }

    private static void move() {
        DotCover x = with(0, 0, 3, 4, 12, 7, 5);
        due("move", x.move(0, 5, -3), 3);
        duePath(x, 0, 5, 0, 9, 9, 12, 2);
        due("move by none", x.move(0, 0, 0), 3);
        due("move back", x.move(0, -5, 3), 3);
        duePath(x, 0, 0, 3, 4, 12, 7, 5);
        due("move of no points", x.move(1, -12, 12), 0);
        add(x, 2, 0, 12);
        due("farthest", x.move(2, 12, -12), 1);
        duePath(x, 2, 12, 0);
        due("farthest", x.move(2, -12, 12), 1);
        duePath(x, 2, 0, 12);
        duePath(x, 0, 0, 3, 4, 12, 7, 5);
    }

    private static void moveRefused() {
        DotCover x = with(0, 0, 3, 4, 12, 7, 5);
        due("left", x.move(0, -1, 0), NO);
        due("up", x.move(0, 0, 1), NO);
        due("right", x.move(0, 6, 0), NO);
        due("down", x.move(0, 0, -4), NO);
        duePath(x, 0, 0, 3, 4, 12, 7, 5);
        for (int wrong : new int[] {-13, 13, MIN, MAX}) {
            due("dx " + wrong, x.move(0, wrong, 0), OUTSIDE);
            due("dy " + wrong, x.move(0, 0, wrong), OUTSIDE);
            due("dx of none " + wrong, x.move(1, wrong, 0), OUTSIDE);
        }
        for (int layer : NO_LAYERS) {
            due("no layer", x.move(layer, 0, 0), UNKNOWN);
            due("no layer, outside", x.move(layer, 13, 0), UNKNOWN);
        }
    }

    private static void back() {
        DotCover x = with(0, 1, 2, 3, 4, 5, 6);
        due("back", x.back(0), 3);
        duePath(x, 0, 5, 6, 3, 4, 1, 2);
        add(x, 0, 7, 8);
        due("back", x.back(0), 4);
        duePath(x, 0, 7, 8, 1, 2, 3, 4, 5, 6);
        due("back of none", x.back(1), 0);
        add(x, 1, 9, 9);
        due("back of one", x.back(1), 1);
        duePath(x, 1, 9, 9);
        for (int layer : NO_LAYERS) {
            due("no layer", x.back(layer), UNKNOWN);
        }
    }

    private static void begin() {
        DotCover x = with(1, 0, 1, 2, 3, 4, 5, 6, 7, 8, 9);
        due("begin", x.begin(1, 2), 5);
        duePath(x, 1, 4, 5, 6, 7, 8, 9, 0, 1, 2, 3);
        due("begin with the first", x.begin(1, 0), 5);
        duePath(x, 1, 4, 5, 6, 7, 8, 9, 0, 1, 2, 3);
        due("begin with the last", x.begin(1, 4), 5);
        duePath(x, 1, 2, 3, 4, 5, 6, 7, 8, 9, 0, 1);
        for (int k : new int[] {-1, 5, 8, MIN, MAX}) {
            due("no point", x.begin(1, k), UNKNOWN);
        }
        due("none", x.begin(0, 0), UNKNOWN);
        for (int layer : NO_LAYERS) {
            due("no layer", x.begin(layer, 0), UNKNOWN);
        }
    }

    private static void at() {
        DotCover x = with(2, 3, 11, 12, 0);
        due("at", x.at(2, 0, 0), 3);
        due("at", x.at(2, 0, 1), 11);
        due("at", x.at(2, 1, 0), 12);
        due("at", x.at(2, 1, 1), 0);
        for (int k : new int[] {-1, 2, 8, MIN, MAX}) {
            due("no point", x.at(2, k, 0), UNKNOWN);
            due("no point, outside", x.at(2, k, 2), UNKNOWN);
        }
        for (int what : NO_PARTS) {
            due("what " + what, x.at(2, 0, what), OUTSIDE);
        }
        for (int layer : NO_LAYERS) {
            due("no layer", x.at(layer, 0, 0), UNKNOWN);
        }
    }

    private static void raw() {
        DotCover x = with(0, 0, 0, 12, 0, 0, 1);
        dueRaw(x, 0, 0, 7, 24);
        dueRaw(x, 0, 3, 1, 24);
        dueRaw(x, 0, 4, 0, 1);
        x.back(0);
        dueRaw(x, 0, 0, -7, 24);
        dueRaw(x, 0, 3, -1, 24);
        // Each DOT's place: a square that fills it and no other.
        for (int dot = 0; dot < 16; dot++) {
            int left = 3 * (dot % 4);
            int low = 3 * (dot / 4);
            DotCover y = with(1, left, low, left + 3, low, left + 3, low + 3, left, low + 3);
            for (int other = 0; other < 16; other++) {
                dueRaw(y, 1, other, other == dot ? 1 : 0, 1);
            }
        }
        DotCover z = with(2, 6, 6);
        dueRaw(z, 2, 5, 0, 1);
        z.point(2, 3, 1);
        dueRaw(z, 2, 5, 0, 1);
        z.point(2, 3, 1);
        dueRaw(z, 2, 5, 0, 1);
        z.point(2, 3, 6);
        // Left of the line from (3, 1) to (6, 6), with the clock.
        dueRaw(z, 2, 5, -7, 10);
        dueRaw(z, 2, 1, -2, 15);
        dueRaw(z, 2, 9, 0, 1);
    }

    private static void rawCountsTurns() {
        // A square twice, in one way and then once in each way.
        DotCover x = with(0, 3, 3, 6, 3, 6, 6, 3, 6, 3, 3, 6, 3, 6, 6, 3, 6);
        dueRaw(x, 0, 5, 2, 1);
        DotCover y = with(0, 3, 3, 6, 3, 6, 6, 3, 6, 3, 3, 3, 6, 6, 6, 6, 3);
        dueRaw(y, 0, 5, 0, 1);
        // An eight: what is against the clock and what is with it take each other away in a DOT.
        DotCover z = with(0, 0, 0, 3, 3, 3, 0, 0, 3);
        dueRaw(z, 0, 0, 0, 1);
        dueRaw(star(), 1, 5, 3, 1);
        DotCover back = star();
        back.back(1);
        dueRaw(back, 1, 5, -3, 1);
    }

    /** Eight points that go round DOT 5 three times. */
    private static DotCover star() {
        return with(1, 3, 0, 12, 6, 0, 6, 6, 0, 6, 12, 0, 3, 12, 3, 3, 12);
    }

    /** No RAW has a lower number above 498960, and no TOGETHER one above that cubed. */
    private static void greatestLowerNumbers() {
        DotCover x = new DotCover();
        for (int layer = 0; layer < 3; layer++) {
            add(x, layer, 8, 1, 11, 2, 0, 9, 6, 9, 10, 4, 1, 11, 10, 3, 8, 4);
            dueRaw(x, layer, 6, -155041, 498960);
            dueCover(x, layer, 6, 155041, 498960);
        }
        dueTogether(x, 6, 83542786152715441L, 124221621275136000L);
    }

    private static void rawRefused() {
        DotCover x = with(0, 0, 0, 12, 0, 0, 1);
        for (int dot : NO_DOTS) {
            due("no dot", x.raw(0, dot, 0), BELOW_UNKNOWN);
            due("no dot, outside", x.raw(0, dot, 2), BELOW_UNKNOWN);
        }
        for (int part : NO_PARTS) {
            due("part " + part, x.raw(0, 0, part), BELOW_OUTSIDE);
        }
        for (int layer : NO_LAYERS) {
            due("no layer", x.raw(layer, 0, 1), BELOW_UNKNOWN);
            due("no layer, outside", x.raw(layer, 0, 2), BELOW_UNKNOWN);
        }
    }

    private static void cover() {
        DotCover x = with(0, 0, 0, 0, 1, 12, 0);
        dueRaw(x, 0, 0, -7, 24);
        dueCover(x, 0, 0, 7, 24);
        dueCover(x, 0, 15, 0, 1);
        dueCover(star(), 1, 5, 1, 1);
        for (int dot : NO_DOTS) {
            due("no dot", x.cover(0, dot, 0), UNKNOWN);
            due("no dot, outside", x.cover(0, dot, 2), UNKNOWN);
        }
        for (int part : NO_PARTS) {
            due("part " + part, x.cover(0, 0, part), OUTSIDE);
        }
        for (int layer : NO_LAYERS) {
            due("no layer", x.cover(layer, 0, 1), UNKNOWN);
            due("no layer, outside", x.cover(layer, 0, 2), UNKNOWN);
        }
    }

    private static void coverFolds() {
        // RAW 3: 2 less is 1.
        DotCover three = star();
        three.rule(1, 1);
        dueCover(three, 1, 5, 1, 1);
        // RAW 2: nothing is left; RAW -3/2: 1/2 is left.
        DotCover two = with(0, 3, 3, 6, 3, 6, 6, 3, 6, 3, 3, 6, 3, 6, 6, 3, 6);
        dueCover(two, 0, 5, 1, 1);
        two.rule(0, 1);
        dueCover(two, 0, 5, 0, 1);
        two.pop(0);
        two.back(0);
        dueRaw(two, 0, 5, -3, 2);
        dueCover(two, 0, 5, 1, 2);
        two.rule(0, 0);
        dueCover(two, 0, 5, 1, 1);
        // RAW 1 and below is the same by both.
        DotCover one = with(0, 0, 0, 12, 0, 0, 1);
        one.rule(0, 1);
        dueCover(one, 0, 0, 7, 24);
        DotCover whole = with(0, 0, 0, 3, 0, 3, 3, 0, 3);
        whole.rule(0, 1);
        dueCover(whole, 0, 0, 1, 1);
    }

    private static void together() {
        DotCover x = with(0, 0, 0, 3, 0, 0, 3);
        dueTogether(x, 0, 1, 2);
        add(x, 1, 3, 3, 3, 0, 0, 3);
        dueTogether(x, 0, 3, 4);
        add(x, 2, 0, 0, 3, 0, 0, 2);
        dueTogether(x, 0, 5, 6);
        dueTogether(x, 1, 0, 1);
        add(x, 2, 0, 0, 3, 0, 3, 3, 0, 3);
        x.rule(2, 1);
        // RAW 4/3 folds to 2/3, so (1/2)(1/2)(1/3) is left uncovered.
        dueRaw(x, 2, 0, 4, 3);
        dueTogether(x, 0, 11, 12);
        x.rule(2, 0);
        dueTogether(x, 0, 1, 1);
        for (int dot : NO_DOTS) {
            due("no dot", x.together(dot, 0), UNKNOWN);
            due("no dot, outside", x.together(dot, 2), UNKNOWN);
        }
        for (int part : NO_PARTS) {
            due("part " + part, x.together(0, part), OUTSIDE);
        }
    }

    private static void area() {
        DotCover x = with(0, 0, 0, 12, 0, 12, 12, 0, 12);
        dueArea(x, 0, 144, 1);
        x.back(0);
        dueArea(x, 0, -144, 1);
        x.pop(0);
        dueArea(x, 0, -72, 1);
        dueArea(with(1, 0, 0, 1, 0, 0, 1), 1, 1, 2);
        dueArea(with(1, 0, 0, 0, 1, 5, 0), 1, -5, 2);
        dueArea(with(2, 0, 0, 12, 12, 12, 0, 0, 12), 2, 0, 1);
        for (int part : NO_PARTS) {
            due("part " + part, x.area(0, part), BELOW_OUTSIDE);
        }
        for (int layer : NO_LAYERS) {
            due("no layer", x.area(layer, 0), BELOW_UNKNOWN);
            due("no layer, outside", x.area(layer, 2), BELOW_UNKNOWN);
        }
    }

    private static void enough() {
        DotCover x = with(1, 0, 0, 3, 0, 0, 3);
        due("enough", x.enough(1, 1, 2), 1);
        due("enough", x.enough(1, 49, 98), 1);
        due("enough", x.enough(1, 49, 99), 1);
        due("enough", x.enough(1, 50, 99), 0);
        due("enough", x.enough(1, 0, 99), ALL_DOTS);
        due("enough", x.enough(1, 0, 1), ALL_DOTS);
        due("enough", x.enough(0, 1, 99), 0);
        add(x, 2, 9, 9, 12, 9, 12, 12, 9, 12);
        due("enough", x.enough(2, 99, 99), 1 << 15);
        due("enough", x.enough(2, 1, 1), 1 << 15);
        int[][] wrong = {{0, 0}, {1, 0}, {0, 100}, {100, 100}, {-1, 5}, {6, 5}, {0, -1}, {-1, -1}, {MIN, 5},
            {MAX, 5}, {0, MIN}, {0, MAX}, {MAX, MAX}, {MIN, MIN}};
        for (int[] pair : wrong) {
            due("enough " + pair[0] + " by " + pair[1], x.enough(1, pair[0], pair[1]), OUTSIDE);
        }
        for (int layer : NO_LAYERS) {
            due("no layer", x.enough(layer, 0, 1), UNKNOWN);
            due("no layer, outside", x.enough(layer, 2, 1), UNKNOWN);
        }
    }

    private static void dueField(DotCover x, int greatest, int least, int whole, int none) {
        due("field(0)", x.field(0), greatest);
        due("field(1)", x.field(1), least);
        due("field(2)", x.field(2), whole);
        due("field(3)", x.field(3), none);
    }

    private static void field() {
        DotCover x = new DotCover();
        dueField(x, 0, 0, 0, 16);
        add(x, 0, 6, 3, 9, 3, 6, 6);
        dueField(x, 6, 0, 0, 15);
        add(x, 1, 0, 0, 12, 0, 12, 12, 0, 12);
        dueField(x, 0, 0, 16, 0);
        x.set(1, 2, 12, 0);
        // What is left is below the line from (0, 12) to (12, 0): half of DOTS 3, 6, 9 and 12.
        dueField(x, 0, 7, 6, 6);
        x.pop(0);
        dueField(x, 0, 7, 6, 6);
        DotCover y = with(2, 3, 0, 12, 0, 12, 12, 0, 12, 0, 3, 3, 3);
        dueField(y, 1, 0, 15, 1);
        for (int what : new int[] {-1, 4, MIN, MAX}) {
            due("what " + what, x.field(what), OUTSIDE);
        }
    }

    private static void dueBest(DotCover x, int layer, int dx, int dy, int dots) {
        due("best(0)", x.best(layer, 0), dx + 100);
        due("best(1)", x.best(layer, 1), dy + 100);
        due("best(2)", x.best(layer, 2), dots);
    }

    private static void best() {
        DotCover x = with(0, 1, 1, 4, 1, 4, 4, 1, 4);
        dueBest(x, 0, -1, -1, 1);
        duePath(x, 0, 1, 1, 4, 1, 4, 4, 1, 4);
        dueBest(with(1, 2, 0, 5, 0, 5, 12, 2, 12), 1, -2, 0, 4);
        dueBest(with(2, 5, 7), 2, -5, -7, 0);
        dueBest(with(2, 12, 0), 2, -12, 0, 0);
        dueBest(with(2, 0, 12), 2, 0, -12, 0);
        DotCover twice = with(0, 3, 3, 9, 3, 9, 9, 3, 9, 3, 3, 9, 3, 9, 9, 3, 9);
        dueBest(twice, 0, -3, -3, 4);
        twice.rule(0, 1);
        dueBest(twice, 0, -3, -3, 0);
        DotCover none = new DotCover();
        for (int what = 0; what < 3; what++) {
            due("best of none", none.best(0, what), NONE);
        }
        for (int what : new int[] {-1, 3, MIN, MAX}) {
            due("what " + what, x.best(0, what), OUTSIDE);
            due("what of none " + what, none.best(0, what), OUTSIDE);
        }
        for (int layer : NO_LAYERS) {
            due("no layer", x.best(layer, 0), UNKNOWN);
            due("no layer, outside", x.best(layer, 3), UNKNOWN);
        }
    }

    private static void bestBreaksTies() {
        // A spur to the left of a square keeps it off the DOTS at the left.
        dueBest(with(0, 0, 1, 4, 1, 4, 4, 1, 4, 1, 1), 0, 2, -1, 1);
        // The same spur downwards.
        dueBest(with(0, 1, 0, 1, 4, 4, 4, 4, 1, 1, 1), 0, -1, 2, 1);
        // Most DOTS come before the least dx.
        dueBest(with(0, 0, 0, 7, 0, 7, 6, 0, 6), 0, 0, 0, 4);
        dueBest(with(0, 0, 0, 7, 0, 7, 6, 1, 6, 1, 2, 0, 2), 0, 2, 0, 4);
    }

    private static void same() {
        DotCover x = with(0, 0, 0, 3, 0, 3, 3, 0, 3);
        due("same", x.same(0, 1), ALL_DOTS - 1);
        due("same", x.same(1, 0), ALL_DOTS - 1);
        due("same", x.same(1, 2), ALL_DOTS);
        due("same, one layer", x.same(0, 0), ALL_DOTS);
        add(x, 1, 0, 3, 3, 3, 3, 0, 0, 0);
        due("same, the other way round", x.same(0, 1), ALL_DOTS);
        add(x, 2, 0, 0, 3, 0, 0, 3);
        due("same", x.same(0, 2), ALL_DOTS - 1);
        // Twice round is alike by RULE 0 and is not by RULE 1.
        add(x, 1, 0, 3, 3, 3, 3, 0, 0, 0);
        due("same, twice round", x.same(0, 1), ALL_DOTS);
        x.rule(1, 1);
        due("same, twice round", x.same(0, 1), ALL_DOTS - 1);
        for (int layer : NO_LAYERS) {
            due("no layer", x.same(layer, 0), UNKNOWN);
            due("no layer", x.same(0, layer), UNKNOWN);
            due("no layer", x.same(layer, layer), UNKNOWN);
        }
    }

    private static void image() {
        DotCover x = with(0, 1, 2, 3, 4);
        due("image", x.image(1), 1);
        due("images", x.count(4), 2);
        due("other image", x.restore(0), STATE);
        x.set(0, 0, 9, 9);
        x.rule(2, 1);
        due("image", x.image(0), 1);
        due("images", x.count(4), 3);
        duePath(x, 0, 9, 9, 3, 4);
        x.restore(1);
        duePath(x, 0, 1, 2, 3, 4);
        due("rule", x.count(12), 0);
        due("in place of what was", x.image(0), 1);
        x.pop(0);
        x.restore(0);
        duePath(x, 0, 1, 2, 3, 4);
        due("rule", x.count(12), 0);
        for (int k : NO_PARTS) {
            due("image " + k, x.image(k), OUTSIDE);
        }
        due("images", x.count(4), 3);
    }

    private static void restore() {
        DotCover x = with(0, 1, 2, 3, 4);
        add(x, 1, 5, 6);
        add(x, 2, 7, 8, 9, 10, 11, 12);
        x.rule(0, 1);
        x.rule(2, 1);
        x.image(0);
        for (int layer = 0; layer < 3; layer++) {
            x.set(layer, 0, 0, 0);
            add(x, layer, 12, 12);
            x.rule(layer, layer % 2);
        }
        x.image(1);
        // The IMAGE stays and is not touched by what comes later.
        for (int again = 0; again < 2; again++) {
            due("restore", x.restore(0), 1);
            duePath(x, 0, 1, 2, 3, 4);
            duePath(x, 1, 5, 6);
            duePath(x, 2, 7, 8, 9, 10, 11, 12);
            due("rule", x.count(10), 1);
            due("rule", x.count(11), 0);
            due("rule", x.count(12), 1);
            due("images stay", x.count(4), 3);
            x.set(0, 1, 0, 0);
            x.pop(2);
            x.rule(1, 1);
        }
        due("restore", x.restore(1), 1);
        duePath(x, 1, 0, 0, 12, 12);
        due("rule", x.count(11), 1);
        for (int k : NO_PARTS) {
            due("restore " + k, x.restore(k), OUTSIDE);
        }
        due("restore of what was not kept", new DotCover().restore(1), STATE);
    }

    private static void count() {
        DotCover x = with(0, 1, 2);
        add(x, 1, 1, 2, 3, 4, 5, 6);
        add(x, 2, 0, 0, 0, 0, 0, 0, 0, 0, 0, 0, 0, 0, 0, 0, 0, 0);
        due("count(0)", x.count(0), 1);
        due("count(1)", x.count(1), 3);
        due("count(2)", x.count(2), 8);
        due("count(3)", x.count(3), 12);
        due("count(4)", x.count(4), 0);
        x.image(0);
        due("count(4)", x.count(4), 1);
        x.rule(1, 1);
        due("count(10)", x.count(10), 0);
        due("count(11)", x.count(11), 1);
        due("count(12)", x.count(12), 0);
        for (int what : new int[] {-1, 5, 6, 7, 8, 9, 13, MIN, MIN + 10, MAX}) {
            due("count " + what, x.count(what), OUTSIDE);
        }
    }

    private static void refusedChangesNothing() {
        DotCover x = with(0, 1, 2, 3, 4, 5, 6, 7, 8, 9, 10, 12, 12, 0, 1, 2, 3);
        x.point(0, 5, 5);
        x.point(1, 13, 5);
        x.set(0, 8, 5, 5);
        x.set(0, 0, 5, 13);
        x.set(0, 0, 13, 5);
        x.rule(0, 2);
        x.move(0, 1, 0);
        x.move(0, 0, 1);
        x.pop(1);
        x.begin(0, 8);
        x.restore(0);
        x.image(2);
        duePath(x, 0, 1, 2, 3, 4, 5, 6, 7, 8, 9, 10, 12, 12, 0, 1, 2, 3);
        due("count(3)", x.count(3), 8);
        due("count(4)", x.count(4), 0);
        due("count(10)", x.count(10), 0);
        due("no move", x.move(0, 1, 0), NO);
        due("full", x.point(0, 5, 5), FULL);
    }
}
