import java.util.List;
import java.util.stream.IntStream;

/**
 * Each sentence of the document that tells a refusal: the last numbers that are still taken, the first that
 * are refused, which of two refusals is answered, and that what is refused changes nothing.
 */
public final class RefusalsTest {
    private static final Check CHECK = new Check("RefusalsTest");
    private static final int MIN = Integer.MIN_VALUE;
    private static final int MAX = Integer.MAX_VALUE;
    private static final int UNKNOWN = -1;
    private static final int OUTSIDE = -2;
    private static final int STATE = -3;
    private static final int FULL = -4;
    private static final int NO = -5;
    private static final int NONE = -6;
    private static final long BELOW = -1_000_000_000_000_000_000L;

    private static final int[] NO_LAYERS = beyond(0, 2);
    private static final int[] NO_DOTS = beyond(0, 15);
    private static final int[] NO_PLACES = beyond(0, 12);
    private static final int[] NO_STEPS = beyond(-12, 12);
    private static final int[] NEITHER_0_NOR_1 = beyond(0, 1);

    private static String sentence = "";

    private interface Call {
        long on(DotCover x);
    }

    /** Objects that a refused call is tried on. */
    private enum State {
        /** Nothing has been called. */
        NEW,
        /** LAYER 0 has three POINTS, LAYER 1 none, LAYER 2 one; IMAGE 1 alone is kept. */
        SOME,
        /** All LAYERS are full, over all of THE FIELD; both IMAGES are kept. */
        FILLED;

        DotCover make() {
            DotCover x = new DotCover();
            if (this == SOME) {
                x.point(1, 6, 7);
                x.rule(2, 1);
                x.image(1);
                x.pop(1);
                x.rule(1, 1);
                x.rule(2, 0);
                add(x, 0, 1, 1, 11, 2, 5, 10);
                add(x, 2, 12, 0);
            } else if (this == FILLED) {
                add(x, 0, 2, 3, 4, 5);
                x.image(0);
                add(x, 1, 9, 9, 9, 9, 3, 4);
                x.rule(1, 1);
                x.image(1);
                add(x, 0, 12, 12, 0, 0, 12, 0, 0, 12, 7, 5, 1, 10);
                add(x, 1, 0, 12, 0, 0, 5, 6, 12, 0, 12, 12);
                add(x, 2, 0, 0, 12, 0, 12, 12, 0, 12, 0, 0, 12, 0, 12, 12, 0, 12);
                x.rule(2, 1);
            }
            return x;
        }
    }

    public static void main(String[] args) {
        terms();
        points();
        wholePaths();
        fractions();
        sets();
        images();
        CHECK.end();
    }

    private static void terms() {
        statesAreAsMeant();
        noLayer();
        plainRefusalsWhereNothingIsBelowZero();
        noneOnlyWhereNoRefusalFits();
        whatIsAskedChangesNothing();
        usedFor512Calls();
    }

    private static void points() {
        pointOutside();
        pointFull();
        popState();
        setUnknown();
        setOutside();
        setTellsWhatWas();
        atUnknown();
        atOutside();
    }

    private static void wholePaths() {
        ruleOutside();
        moveOutside();
        moveNo();
        moveNoMovesNoPoint();
        moveOfNoPoints();
        backOfFewAndMany();
        beginUnknown();
        beginOfFewAndMany();
    }

    private static void fractions() {
        rawUnknown();
        rawOutside();
        coverUnknown();
        coverOutside();
        togetherUnknown();
        togetherOutside();
        areaOutside();
    }

    private static void sets() {
        enoughLow();
        enoughUp();
        fieldOutside();
        bestOutside();
        bestNone();
        sameUnknown();
    }

    private static void images() {
        imageOutside();
        imageInPlaceOfWhatWasKept();
        imageOfNothing();
        restoreOutside();
        restoreState();
        restoreLeavesImages();
        countOutside();
        countOfNoneAndOfMany();
    }

    // ---- helpers

    /** Numbers below least and above most: the nearest ones, and such as a shift or a cast could let through. */
    private static int[] beyond(int least, int most) {
        return new int[] {least - 1, least - 2, least - 256, most + 1, most + 2, most + 256, least + 65536,
            most - 65536, least + 32 + 128, MIN, MIN + 1, MIN + 10, MAX - 1, MAX};
    }

    private static DotCover add(DotCover x, int layer, int... places) {
        for (int i = 0; i < places.length; i += 2) {
            x.point(layer, places[i], places[i + 1]);
        }
        return x;
    }

    private static DotCover with(int layer, int... places) {
        return add(new DotCover(), layer, places);
    }

    /** So many POINTS, (0, 12), (1, 11), .. on a LAYER. */
    private static DotCover withPoints(int layer, int points) {
        DotCover x = new DotCover();
        for (int k = 0; k < points; k++) {
            x.point(layer, k, 12 - k);
        }
        return x;
    }

    private static void sentence(String words) {
        sentence = words;
    }

    private static void due(String call, long got, long want) {
        CHECK.due("\"" + sentence + "\": " + call, got, want);
    }

    private static void duePath(DotCover x, int layer, int... places) {
        due("count(" + layer + ")", x.count(layer), places.length / 2);
        for (int i = 0; i < places.length; i += 2) {
            due("at(" + layer + ", " + i / 2 + ", 0)", x.at(layer, i / 2, 0), places[i]);
            due("at(" + layer + ", " + i / 2 + ", 1)", x.at(layer, i / 2, 1), places[i + 1]);
        }
    }

    /** Refused, whatever the state. */
    private static void refused(String call, long want, Call made) {
        for (State state : State.values()) {
            refusedIn(state, call, want, made);
        }
    }

    private static void refusedIn(State state, String call, long want, Call made) {
        DotCover x = state.make();
        due(call + " in " + state, made.on(x), want);
        unchanged(call + " in " + state, x, state.make());
    }

    private static void unchanged(String call, DotCover x, DotCover untouched) {
        List<String> want = Told.by(untouched);
        List<String> got = Told.by(x);
        due(call + ", rows told after it", got.size(), want.size());
        for (int i = 0; i < Math.min(got.size(), want.size()); i++) {
            CHECK.holds("\"" + sentence + "\": after " + call + " \"" + got.get(i) + "\", before \"" + want.get(i)
                    + "\"", got.get(i).equals(want.get(i)));
        }
    }

    // ---- terms

    private static void statesAreAsMeant() {
        sentence("(the states that refusals are tried on)");
        due("points of NEW", State.NEW.make().count(3), 0);
        due("images of NEW", State.NEW.make().count(4), 0);
        due("points of SOME", State.SOME.make().count(3), 4);
        due("images of SOME", State.SOME.make().count(4), 2);
        due("points of FILLED", State.FILLED.make().count(3), 24);
        due("images of FILLED", State.FILLED.make().count(4), 3);
    }

    /** Ahead of all else that could be refused, so the other numbers are wrong here as well as right. */
    private static void noLayer() {
        sentence("LAYERS are 0 to 2; UNKNOWN (no such LAYER)");
        for (int n : NO_LAYERS) {
            refused("point(" + n + ", 0, 0)", UNKNOWN, x -> x.point(n, 0, 0));
            refused("point(" + n + ", 13, -1)", UNKNOWN, x -> x.point(n, 13, -1));
            refused("pop(" + n + ")", UNKNOWN, x -> x.pop(n));
            refused("set(" + n + ", 0, 0, 0)", UNKNOWN, x -> x.set(n, 0, 0, 0));
            refused("set(" + n + ", 8, 13, -1)", UNKNOWN, x -> x.set(n, 8, 13, -1));
            refused("rule(" + n + ", 1)", UNKNOWN, x -> x.rule(n, 1));
            refused("rule(" + n + ", 2)", UNKNOWN, x -> x.rule(n, 2));
            refused("move(" + n + ", 0, 0)", UNKNOWN, x -> x.move(n, 0, 0));
            refused("move(" + n + ", 13, 13)", UNKNOWN, x -> x.move(n, 13, 13));
            refused("back(" + n + ")", UNKNOWN, x -> x.back(n));
            refused("begin(" + n + ", 0)", UNKNOWN, x -> x.begin(n, 0));
            refused("at(" + n + ", 0, 0)", UNKNOWN, x -> x.at(n, 0, 0));
            refused("at(" + n + ", 0, 2)", UNKNOWN, x -> x.at(n, 0, 2));
            refused("raw(" + n + ", 0, 0)", BELOW + UNKNOWN, x -> x.raw(n, 0, 0));
            refused("raw(" + n + ", 0, 2)", BELOW + UNKNOWN, x -> x.raw(n, 0, 2));
            refused("cover(" + n + ", 0, 0)", UNKNOWN, x -> x.cover(n, 0, 0));
            refused("cover(" + n + ", 0, 2)", UNKNOWN, x -> x.cover(n, 0, 2));
            refused("area(" + n + ", 0)", BELOW + UNKNOWN, x -> x.area(n, 0));
            refused("area(" + n + ", 2)", BELOW + UNKNOWN, x -> x.area(n, 2));
            refused("enough(" + n + ", 0, 1)", UNKNOWN, x -> x.enough(n, 0, 1));
            refused("enough(" + n + ", 2, 1)", UNKNOWN, x -> x.enough(n, 2, 1));
            refused("enough(" + n + ", 0, 0)", UNKNOWN, x -> x.enough(n, 0, 0));
            refused("best(" + n + ", 0)", UNKNOWN, x -> x.best(n, 0));
            refused("best(" + n + ", 3)", UNKNOWN, x -> x.best(n, 3));
        }
        for (int layer : new int[] {0, 1, 2}) {
            DotCover x = new DotCover();
            due("point(" + layer + ", 0, 0)", x.point(layer, 0, 0), 0);
            due("set(" + layer + ", 0, 1, 1)", x.set(layer, 0, 1, 1), 0);
            due("at(" + layer + ", 0, 0)", x.at(layer, 0, 0), 1);
            due("rule(" + layer + ", 1)", x.rule(layer, 1), 0);
            due("move(" + layer + ", 1, 1)", x.move(layer, 1, 1), 1);
            due("back(" + layer + ")", x.back(layer), 1);
            due("begin(" + layer + ", 0)", x.begin(layer, 0), 1);
            due("raw(" + layer + ", 0, 1)", x.raw(layer, 0, 1), 1);
            due("cover(" + layer + ", 0, 1)", x.cover(layer, 0, 1), 1);
            due("area(" + layer + ", 1)", x.area(layer, 1), 1);
            due("enough(" + layer + ", 1, 1)", x.enough(layer, 1, 1), 0);
            due("best(" + layer + ", 2)", x.best(layer, 2), 0);
            due("same(" + layer + ", " + layer + ")", x.same(layer, layer), 65535);
            due("pop(" + layer + ")", x.pop(layer), 0);
        }
    }

    private static void plainRefusalsWhereNothingIsBelowZero() {
        sentence("Where a number that can be below 0 is told, BELOW and one of these, added, in place of it");
        refused("raw(3, 0, 0)", -1_000_000_000_000_000_001L, x -> x.raw(3, 0, 0));
        refused("raw(0, 0, 2)", -1_000_000_000_000_000_002L, x -> x.raw(0, 0, 2));
        refused("area(3, 0)", -1_000_000_000_000_000_001L, x -> x.area(3, 0));
        refused("area(0, 2)", -1_000_000_000_000_000_002L, x -> x.area(0, 2));
        refused("cover(3, 0, 0)", -1, x -> x.cover(3, 0, 0));
        refused("cover(0, 0, 2)", -2, x -> x.cover(0, 0, 2));
        refused("together(16, 0)", -1, x -> x.together(16, 0));
        refused("together(0, 2)", -2, x -> x.together(0, 2));
        // RAW and AREA that are as low as a refusal are told as they are.
        DotCover once = with(0, 0, 0, 0, 3, 3, 3, 3, 0);
        due("raw -1", once.raw(0, 0, 0), -1);
        due("area -9", once.area(0, 0), -9);
        add(once, 0, 0, 0, 0, 3, 3, 3, 3, 0);
        due("raw -2", once.raw(0, 0, 0), -2);
        due("area -18", once.area(0, 0), -18);
        due("area -1", with(1, 0, 0, 0, 1, 2, 0).area(1, 0), -1);
        due("area -2", with(1, 0, 0, 0, 1, 4, 0).area(1, 0), -2);
    }

    private static void noneOnlyWhereNoRefusalFits() {
        sentence("NONE -6 is answered only where no refusal fits");
        for (int what : beyond(0, 2)) {
            refusedIn(State.NEW, "best(0, " + what + ")", OUTSIDE, x -> x.best(0, what));
            refusedIn(State.SOME, "best(1, " + what + ")", OUTSIDE, x -> x.best(1, what));
        }
        refusedIn(State.NEW, "best(3, 0)", UNKNOWN, x -> x.best(3, 0));
        refusedIn(State.NEW, "best(-1, 3)", UNKNOWN, x -> x.best(-1, 3));
    }

    private static void whatIsAskedChangesNothing() {
        sentence("All that is told is as things are when it is asked");
        for (State state : State.values()) {
            DotCover x = state.make();
            for (int layer = 0; layer < 3; layer++) {
                x.at(layer, 0, 1);
                x.raw(layer, 5, 0);
                x.cover(layer, 10, 1);
                x.area(layer, 0);
                x.enough(layer, 1, 2);
                x.best(layer, 0);
                x.best(layer, 1);
                x.best(layer, 2);
                x.same(layer, 0);
                x.count(layer);
                x.count(10 + layer);
            }
            x.together(6, 0);
            for (int what = 0; what < 4; what++) {
                x.field(what);
            }
            x.count(3);
            x.count(4);
            unchanged("asking in " + state, x, state.make());
        }
    }

    private static void usedFor512Calls() {
        sentence("An object is used for at most 512 calls");
        DotCover x = new DotCover();
        for (int call = 1; call <= 508; call += 4) {
            due("call " + call, x.point(0, 12, call % 13), 0);
            due("call " + (call + 1), x.image(call % 8 / 4), 1);
            due("call " + (call + 2), x.pop(0), 0);
            due("call " + (call + 3), x.pop(0), STATE);
        }
        due("call 509", x.count(4), 3);
        due("call 510", x.restore(505 % 8 / 4), 1);
        due("call 511", x.at(0, 0, 1), 505 % 13);
        due("call 512", x.point(0, 0, 0), 1);
    }

    // ---- 1 paths

    private static void pointOutside() {
        sentence("point: OUTSIDE: both");
        for (int wrong : NO_PLACES) {
            for (int layer = 0; layer < 3; layer++) {
                int on = layer;
                // Ahead of FULL, which fits too where the LAYER is filled.
                refused("point(" + on + ", " + wrong + ", 12)", OUTSIDE, x -> x.point(on, wrong, 12));
                refused("point(" + on + ", 0, " + wrong + ")", OUTSIDE, x -> x.point(on, 0, wrong));
            }
            refused("point(1, " + wrong + ", " + wrong + ")", OUTSIDE, x -> x.point(1, wrong, wrong));
        }
        DotCover x = new DotCover();
        due("point(0, 0, 0)", x.point(0, 0, 0), 0);
        due("point(0, 12, 0)", x.point(0, 12, 0), 1);
        due("point(0, 12, 12)", x.point(0, 12, 12), 2);
        due("point(0, 0, 12)", x.point(0, 0, 12), 3);
        duePath(x, 0, 0, 0, 12, 0, 12, 12, 0, 12);
    }

    private static void pointFull() {
        sentence("point: its number. FULL: it has 8");
        for (int layer = 0; layer < 3; layer++) {
            int on = layer;
            refusedIn(State.FILLED, "point(" + on + ", 0, 0)", FULL, x -> x.point(on, 0, 0));
            refusedIn(State.FILLED, "point(" + on + ", 12, 12)", FULL, x -> x.point(on, 12, 12));
            DotCover x = withPoints(layer, 7);
            due("the eighth", x.point(layer, 4, 4), 7);
            due("the ninth", x.point(layer, 4, 4), FULL);
            due("the ninth, outside", x.point(layer, 13, 4), OUTSIDE);
            due("another layer", x.point((layer + 1) % 3, 4, 4), 0);
            due("pop", x.pop(layer), 7);
            due("the eighth again", x.point(layer, 5, 6), 7);
            due("the ninth again", x.point(layer, 4, 4), FULL);
            duePath(x, layer, 0, 12, 1, 11, 2, 10, 3, 9, 4, 8, 5, 7, 6, 6, 5, 6);
        }
    }

    private static void popState() {
        sentence("pop: how many are left. STATE: it has none");
        for (int layer = 0; layer < 3; layer++) {
            int on = layer;
            refusedIn(State.NEW, "pop(" + on + ")", STATE, x -> x.pop(on));
            DotCover x = withPoints(layer, 8);
            for (int left = 7; left >= 0; left--) {
                due("pop", x.pop(layer), left);
                due("count", x.count(layer), left);
                due("point " + left + " is gone", x.at(layer, left, 0), UNKNOWN);
            }
            due("pop of none", x.pop(layer), STATE);
            due("pop of none again", x.pop(layer), STATE);
            due("the next one's number", x.point(layer, 3, 3), 0);
        }
        refusedIn(State.SOME, "pop(1)", STATE, x -> x.pop(1));
        DotCover two = withPoints(0, 2);
        two.pop(0);
        duePath(two, 0, 0, 12);
    }

    private static void setUnknown() {
        sentence("set: UNKNOWN: both");
        for (int k : new int[] {-1, 0, 7, 8, MIN, MAX}) {
            refusedIn(State.NEW, "set(0, " + k + ", 0, 0)", UNKNOWN, x -> x.set(0, k, 0, 0));
            refusedIn(State.NEW, "set(0, " + k + ", 13, 0)", UNKNOWN, x -> x.set(0, k, 13, 0));
        }
        for (int k : beyond(0, 2)) {
            refusedIn(State.SOME, "set(0, " + k + ", 4, 4)", UNKNOWN, x -> x.set(0, k, 4, 4));
            refusedIn(State.SOME, "set(0, " + k + ", 4, 13)", UNKNOWN, x -> x.set(0, k, 4, 13));
        }
        for (int k : beyond(0, 7)) {
            refusedIn(State.FILLED, "set(2, " + k + ", 4, 4)", UNKNOWN, x -> x.set(2, k, 4, 4));
            refusedIn(State.FILLED, "set(2, " + k + ", -1, 4)", UNKNOWN, x -> x.set(2, k, -1, 4));
        }
        for (int points = 1; points <= 8; points++) {
            DotCover x = withPoints(1, points);
            due("the last of " + points, x.set(1, points - 1, 9, 9), 13 * (points - 1) + 13 - points);
            due("the first of " + points, x.set(1, 0, 9, 9), points == 1 ? 13 * 9 + 9 : 12);
            due("one behind " + points, x.set(1, points, 9, 9), UNKNOWN);
            x.pop(1);
            due("what was popped", x.set(1, points - 1, 9, 9), UNKNOWN);
        }
    }

    private static void setOutside() {
        sentence("set: OUTSIDE: both");
        for (int wrong : NO_PLACES) {
            refusedIn(State.SOME, "set(0, 1, " + wrong + ", 5)", OUTSIDE, x -> x.set(0, 1, wrong, 5));
            refusedIn(State.SOME, "set(0, 1, 5, " + wrong + ")", OUTSIDE, x -> x.set(0, 1, 5, wrong));
            refusedIn(State.FILLED, "set(1, 7, " + wrong + ", 5)", OUTSIDE, x -> x.set(1, 7, wrong, 5));
            refusedIn(State.FILLED, "set(1, 0, 5, " + wrong + ")", OUTSIDE, x -> x.set(1, 0, 5, wrong));
            refusedIn(State.FILLED, "set(1, 3, both " + wrong + ")", OUTSIDE, x -> x.set(1, 3, wrong, wrong));
        }
    }

    private static void setTellsWhatWas() {
        sentence("set: 13 times the x, and the y, that were, added");
        DotCover x = with(0, 5, 5);
        due("from (5, 5)", x.set(0, 0, 0, 0), 70);
        due("from (0, 0)", x.set(0, 0, 12, 0), 0);
        due("from (12, 0)", x.set(0, 0, 0, 12), 156);
        due("from (0, 12)", x.set(0, 0, 12, 12), 12);
        due("from (12, 12)", x.set(0, 0, 12, 12), 168);
        due("to where it was", x.set(0, 0, 1, 0), 168);
        due("from (1, 0)", x.set(0, 0, 3, 3), 13);
        duePath(x, 0, 3, 3);
        DotCover three = with(2, 1, 2, 3, 4, 5, 6);
        due("the one between", three.set(2, 1, 7, 8), 43);
        duePath(three, 2, 1, 2, 7, 8, 5, 6);
    }

    private static void atUnknown() {
        sentence("at: UNKNOWN: both");
        for (int k : new int[] {-1, 0, 7, 8, MIN, MAX}) {
            refusedIn(State.NEW, "at(0, " + k + ", 0)", UNKNOWN, x -> x.at(0, k, 0));
            refusedIn(State.NEW, "at(0, " + k + ", 2)", UNKNOWN, x -> x.at(0, k, 2));
        }
        for (int k : beyond(0, 2)) {
            refusedIn(State.SOME, "at(0, " + k + ", 1)", UNKNOWN, x -> x.at(0, k, 1));
            refusedIn(State.SOME, "at(0, " + k + ", -1)", UNKNOWN, x -> x.at(0, k, -1));
        }
        for (int k : beyond(0, 7)) {
            refusedIn(State.FILLED, "at(1, " + k + ", 1)", UNKNOWN, x -> x.at(1, k, 1));
            refusedIn(State.FILLED, "at(1, " + k + ", 2)", UNKNOWN, x -> x.at(1, k, 2));
        }
        for (int points = 1; points <= 8; points++) {
            DotCover x = withPoints(2, points);
            due("the first of " + points, x.at(2, 0, 1), 12);
            due("the last of " + points, x.at(2, points - 1, 0), points - 1);
            due("one behind " + points, x.at(2, points, 0), UNKNOWN);
        }
    }

    private static void atOutside() {
        sentence("at: x (what = 0), y (1). OUTSIDE");
        for (int what : NEITHER_0_NOR_1) {
            refusedIn(State.SOME, "at(0, 2, " + what + ")", OUTSIDE, x -> x.at(0, 2, what));
            refusedIn(State.FILLED, "at(2, 7, " + what + ")", OUTSIDE, x -> x.at(2, 7, what));
        }
        DotCover x = with(0, 0, 12);
        due("at(0, 0, 0)", x.at(0, 0, 0), 0);
        due("at(0, 0, 1)", x.at(0, 0, 1), 12);
    }

    private static void ruleOutside() {
        sentence("rule: RULE, 0 (at first) or 1; which it was. OUTSIDE");
        for (int v : NEITHER_0_NOR_1) {
            for (int layer = 0; layer < 3; layer++) {
                int on = layer;
                refused("rule(" + on + ", " + v + ")", OUTSIDE, x -> x.rule(on, v));
            }
        }
        for (int layer = 0; layer < 3; layer++) {
            DotCover x = new DotCover();
            due("to 0 at first", x.rule(layer, 0), 0);
            due("to 1", x.rule(layer, 1), 0);
            due("to 1 again", x.rule(layer, 1), 1);
            due("count", x.count(10 + layer), 1);
            due("count of another", x.count(10 + (layer + 1) % 3), 0);
            due("count of the third", x.count(10 + (layer + 2) % 3), 0);
            due("to 0", x.rule(layer, 0), 1);
            due("count", x.count(10 + layer), 0);
        }
    }

    private static void moveOutside() {
        sentence("move: OUTSIDE: both are -12 to 12");
        for (int wrong : NO_STEPS) {
            for (int layer = 0; layer < 3; layer++) {
                int on = layer;
                // Ahead of NO, which fits too where there are POINTS.
                refused("move(" + on + ", " + wrong + ", 0)", OUTSIDE, x -> x.move(on, wrong, 0));
                refused("move(" + on + ", 0, " + wrong + ")", OUTSIDE, x -> x.move(on, 0, wrong));
                refused("move(" + on + ", 12, " + wrong + ")", OUTSIDE, x -> x.move(on, 12, wrong));
            }
        }
        for (int dx : new int[] {-12, 12}) {
            for (int dy : new int[] {-12, 12}) {
                DotCover x = with(1, dx < 0 ? 12 : 0, dy < 0 ? 12 : 0);
                due("move(1, " + dx + ", " + dy + ")", x.move(1, dx, dy), 1);
                duePath(x, 1, dx < 0 ? 0 : 12, dy < 0 ? 0 : 12);
            }
        }
    }

    private static void moveNo() {
        sentence("move: NO: a POINT would not be in THE FIELD");
        int[][] nowhere = {{1, 0}, {-1, 0}, {0, 1}, {0, -1}, {12, 12}, {-12, -12}};
        for (int[] by : nowhere) {
            for (int layer = 0; layer < 3; layer++) {
                int on = layer;
                refusedIn(State.FILLED, "move(" + on + ", " + by[0] + ", " + by[1] + ")", NO,
                        x -> x.move(on, by[0], by[1]));
            }
        }
        refusedIn(State.SOME, "move(0, 2, 0)", NO, x -> x.move(0, 2, 0));
        refusedIn(State.SOME, "move(0, -2, 0)", NO, x -> x.move(0, -2, 0));
        refusedIn(State.SOME, "move(0, 0, 3)", NO, x -> x.move(0, 0, 3));
        refusedIn(State.SOME, "move(0, 0, -2)", NO, x -> x.move(0, 0, -2));
        for (int[] by : new int[][] {{1, 0}, {-1, 0}, {0, 2}, {0, -1}, {1, 2}, {-1, -1}}) {
            due("move(0, " + by[0] + ", " + by[1] + ")", State.SOME.make().move(0, by[0], by[1]), 3);
        }
        DotCover filled = State.FILLED.make();
        due("a full path by nothing", filled.move(0, 0, 0), 8);
        unchanged("move(0, 0, 0)", filled, State.FILLED.make());
        // A PATH moves only within THE FIELD; the other LAYERS' POINTS do not hold it.
        DotCover x = with(0, 5, 5);
        add(x, 1, 12, 12);
        due("beside one that cannot move", x.move(0, 7, 7), 1);
        duePath(x, 0, 12, 12);
        duePath(x, 1, 12, 12);
    }

    private static void moveNoMovesNoPoint() {
        sentence("move: NO, and what is refused changes nothing");
        int[] inside = {5, 5};
        int[][] edges = {{12, 5}, {0, 5}, {5, 12}, {5, 0}};
        int[][] steps = {{1, 0}, {-1, 0}, {0, 1}, {0, -1}};
        for (int side = 0; side < 4; side++) {
            // The POINT that would leave is each of eight.
            for (int one = 0; one < 8; one++) {
                DotCover x = new DotCover();
                int[] path = new int[16];
                for (int k = 0; k < 8; k++) {
                    int[] place = k == one ? edges[side] : inside;
                    path[2 * k] = place[0];
                    path[2 * k + 1] = place[1];
                    x.point(1, place[0], place[1]);
                }
                due("point " + one + " at side " + side, x.move(1, steps[side][0], steps[side][1]), NO);
                duePath(x, 1, path);
                due("the other way", x.move(1, -steps[side][0], -steps[side][1]), 8);
            }
        }
    }

    private static void moveOfNoPoints() {
        sentence("move: how many POINTS it has (none)");
        for (int dx = -12; dx <= 12; dx++) {
            for (int dy : new int[] {-12, 0, 12}) {
                due("move(0, " + dx + ", " + dy + ")", new DotCover().move(0, dx, dy), 0);
            }
        }
        DotCover x = new DotCover();
        x.move(0, 12, -12);
        unchanged("move(0, 12, -12)", x, new DotCover());
        // POINTS that have gone do not hold the PATH.
        DotCover y = with(0, 0, 0, 12, 12);
        due("with both", y.move(0, 1, 1), NO);
        y.pop(0);
        due("with one", y.move(0, 1, 1), 1);
        y.pop(0);
        due("with none", y.move(0, 12, 12), 0);
    }

    private static void backOfFewAndMany() {
        sentence("back: the first one is the last one then: how many");
        for (int points = 0; points <= 8; points++) {
            DotCover x = withPoints(1, points);
            due("back of " + points, x.back(1), points);
            int[] path = new int[2 * points];
            for (int k = 0; k < points; k++) {
                path[2 * k] = points - 1 - k;
                path[2 * k + 1] = 13 - points + k;
            }
            duePath(x, 1, path);
            due("back again", x.back(1), points);
            unchanged("back twice", x, withPoints(1, points));
        }
    }

    private static void beginUnknown() {
        sentence("begin: UNKNOWN: both");
        for (int k : new int[] {-1, 0, 7, 8, MIN, MAX}) {
            refusedIn(State.NEW, "begin(0, " + k + ")", UNKNOWN, x -> x.begin(0, k));
            refusedIn(State.SOME, "begin(1, " + k + ")", UNKNOWN, x -> x.begin(1, k));
        }
        for (int k : beyond(0, 2)) {
            refusedIn(State.SOME, "begin(0, " + k + ")", UNKNOWN, x -> x.begin(0, k));
        }
        for (int k : beyond(0, 7)) {
            refusedIn(State.FILLED, "begin(0, " + k + ")", UNKNOWN, x -> x.begin(0, k));
        }
        DotCover x = withPoints(0, 3);
        x.pop(0);
        due("what was popped", x.begin(0, 2), UNKNOWN);
        due("the last that is left", x.begin(0, 1), 2);
    }

    private static void beginOfFewAndMany() {
        sentence("begin: POINT k becomes the first one, those ahead of it come behind the last one, in their order");
        for (int points = 1; points <= 8; points++) {
            for (int k = 0; k < points; k++) {
                DotCover x = withPoints(2, points);
                due("begin(2, " + k + ") of " + points, x.begin(2, k), points);
                int[] path = new int[2 * points];
                for (int i = 0; i < points; i++) {
                    path[2 * i] = (i + k) % points;
                    path[2 * i + 1] = 12 - (i + k) % points;
                }
                duePath(x, 2, path);
            }
        }
    }

    // ---- 2 covers

    private static void rawUnknown() {
        sentence("raw: UNKNOWN: both");
        for (int dot : NO_DOTS) {
            refused("raw(0, " + dot + ", 0)", BELOW + UNKNOWN, x -> x.raw(0, dot, 0));
            refused("raw(2, " + dot + ", 1)", BELOW + UNKNOWN, x -> x.raw(2, dot, 1));
            refused("raw(0, " + dot + ", 2)", BELOW + UNKNOWN, x -> x.raw(0, dot, 2));
            refused("raw(3, " + dot + ", -1)", BELOW + UNKNOWN, x -> x.raw(3, dot, -1));
        }
        DotCover x = with(0, 0, 0, 12, 0, 12, 12, 0, 12);
        due("raw(0, 0, 0)", x.raw(0, 0, 0), 1);
        due("raw(0, 15, 0)", x.raw(0, 15, 0), 1);
    }

    private static void rawOutside() {
        sentence("raw: part: 0 the upper number, 1 the lower one. OUTSIDE");
        for (int part : NEITHER_0_NOR_1) {
            refused("raw(0, 0, " + part + ")", BELOW + OUTSIDE, x -> x.raw(0, 0, part));
            refused("raw(1, 15, " + part + ")", BELOW + OUTSIDE, x -> x.raw(1, 15, part));
        }
        DotCover x = with(0, 0, 0, 0, 1, 1, 0);
        due("raw(0, 0, 0)", x.raw(0, 0, 0), -1);
        due("raw(0, 0, 1)", x.raw(0, 0, 1), 18);
    }

    private static void coverUnknown() {
        sentence("cover: UNKNOWN: both");
        for (int dot : NO_DOTS) {
            refused("cover(0, " + dot + ", 0)", UNKNOWN, x -> x.cover(0, dot, 0));
            refused("cover(2, " + dot + ", 1)", UNKNOWN, x -> x.cover(2, dot, 1));
            refused("cover(0, " + dot + ", 2)", UNKNOWN, x -> x.cover(0, dot, 2));
            refused("cover(3, " + dot + ", -1)", UNKNOWN, x -> x.cover(3, dot, -1));
        }
        DotCover x = with(0, 0, 0, 12, 0, 12, 12, 0, 12);
        due("cover(0, 0, 0)", x.cover(0, 0, 0), 1);
        due("cover(0, 15, 0)", x.cover(0, 15, 0), 1);
    }

    private static void coverOutside() {
        sentence("cover: part: 0 the upper number, 1 the lower one. OUTSIDE");
        for (int part : NEITHER_0_NOR_1) {
            refused("cover(0, 0, " + part + ")", OUTSIDE, x -> x.cover(0, 0, part));
            refused("cover(1, 15, " + part + ")", OUTSIDE, x -> x.cover(1, 15, part));
        }
        DotCover x = with(0, 0, 0, 0, 1, 1, 0);
        due("cover(0, 0, 0)", x.cover(0, 0, 0), 1);
        due("cover(0, 0, 1)", x.cover(0, 0, 1), 18);
    }

    private static void togetherUnknown() {
        sentence("together: UNKNOWN");
        for (int dot : NO_DOTS) {
            refused("together(" + dot + ", 0)", UNKNOWN, x -> x.together(dot, 0));
            refused("together(" + dot + ", 1)", UNKNOWN, x -> x.together(dot, 1));
            refused("together(" + dot + ", 2)", UNKNOWN, x -> x.together(dot, 2));
        }
        DotCover x = with(0, 0, 0, 12, 0, 12, 12, 0, 12);
        due("together(0, 0)", x.together(0, 0), 1);
        due("together(15, 0)", x.together(15, 0), 1);
    }

    private static void togetherOutside() {
        sentence("together: part: 0 the upper number, 1 the lower one. OUTSIDE");
        for (int part : NEITHER_0_NOR_1) {
            refused("together(0, " + part + ")", OUTSIDE, x -> x.together(0, part));
            refused("together(15, " + part + ")", OUTSIDE, x -> x.together(15, part));
        }
        DotCover x = with(0, 0, 0, 0, 1, 1, 0);
        due("together(0, 0)", x.together(0, 0), 1);
        due("together(0, 1)", x.together(0, 1), 18);
    }

    private static void areaOutside() {
        sentence("area: part: 0 the upper number, 1 the lower one. OUTSIDE");
        for (int part : NEITHER_0_NOR_1) {
            for (int layer = 0; layer < 3; layer++) {
                int on = layer;
                refused("area(" + on + ", " + part + ")", BELOW + OUTSIDE, x -> x.area(on, part));
            }
        }
        DotCover x = with(0, 0, 0, 0, 1, 1, 0);
        due("area(0, 0)", x.area(0, 0), -1);
        due("area(0, 1)", x.area(0, 1), 2);
    }

    private static void enoughLow() {
        sentence("enough: low 1 to 99. OUTSIDE");
        for (int low : beyond(1, 99)) {
            refused("enough(0, 0, " + low + ")", OUTSIDE, x -> x.enough(0, 0, low));
            refused("enough(1, 1, " + low + ")", OUTSIDE, x -> x.enough(1, 1, low));
            refused("enough(2, " + low + ", " + low + ")", OUTSIDE, x -> x.enough(2, low, low));
        }
        DotCover x = with(0, 0, 0, 3, 0, 3, 3, 0, 3);
        for (int low = 1; low <= 99; low++) {
            due("enough(0, 0, " + low + ")", x.enough(0, 0, low), 65535);
            due("enough(0, 1, " + low + ")", x.enough(0, 1, low), 1);
            due("enough(0, " + low + ", " + low + ")", x.enough(0, low, low), 1);
        }
    }

    private static void enoughUp() {
        sentence("enough: up 0 to low. OUTSIDE");
        for (int low : new int[] {1, 2, 50, 99}) {
            for (int up : beyond(0, low)) {
                refused("enough(0, " + up + ", " + low + ")", OUTSIDE, x -> x.enough(0, up, low));
                refused("enough(2, " + up + ", " + low + ")", OUTSIDE, x -> x.enough(2, up, low));
            }
            for (int up : new int[] {1, low}) {
                due("enough(1, " + up + ", " + low + ") of none", new DotCover().enough(1, up, low), 0);
            }
            due("enough(1, 0, " + low + ") of none", new DotCover().enough(1, 0, low), 65535);
        }
    }

    private static void fieldOutside() {
        sentence("field: OUTSIDE");
        for (int what : beyond(0, 3)) {
            refused("field(" + what + ")", OUTSIDE, x -> x.field(what));
        }
        // A square over DOT 5: the four answers are four numbers.
        DotCover x = with(1, 3, 3, 6, 3, 6, 6, 3, 6);
        due("field(0)", x.field(0), 5);
        due("field(1)", x.field(1), 0);
        due("field(2)", x.field(2), 1);
        due("field(3)", x.field(3), 15);
    }

    private static void bestOutside() {
        sentence("best: OUTSIDE");
        for (int what : beyond(0, 2)) {
            for (int layer = 0; layer < 3; layer++) {
                int on = layer;
                refused("best(" + on + ", " + what + ")", OUTSIDE, x -> x.best(on, what));
            }
        }
        DotCover x = with(2, 5, 7, 8, 7, 8, 10, 5, 10);
        due("best(2, 0)", x.best(2, 0), 95);
        due("best(2, 1)", x.best(2, 1), 93);
        due("best(2, 2)", x.best(2, 2), 1);
    }

    private static void bestNone() {
        sentence("best: NONE: it has no POINTS");
        for (int what = 0; what < 3; what++) {
            int asked = what;
            for (int layer = 0; layer < 3; layer++) {
                int on = layer;
                refusedIn(State.NEW, "best(" + on + ", " + asked + ")", NONE, x -> x.best(on, asked));
            }
            refusedIn(State.SOME, "best(1, " + asked + ")", NONE, x -> x.best(1, asked));
            DotCover x = with(0, 3, 4);
            due("best(0, " + what + ") of one", x.best(0, what), new int[] {97, 96, 0}[what]);
            due("best(1, " + what + ") of none", x.best(1, what), NONE);
            x.pop(0);
            due("best(0, " + what + ") after the last has gone", x.best(0, what), NONE);
        }
    }

    private static void sameUnknown() {
        sentence("same: UNKNOWN: both");
        for (int wrong : NO_LAYERS) {
            for (int layer = 0; layer < 3; layer++) {
                int right = layer;
                refused("same(" + wrong + ", " + right + ")", UNKNOWN, x -> x.same(wrong, right));
                refused("same(" + right + ", " + wrong + ")", UNKNOWN, x -> x.same(right, wrong));
            }
            refused("same(" + wrong + ", " + wrong + ")", UNKNOWN, x -> x.same(wrong, wrong));
        }
        for (int one = 0; one < 3; one++) {
            for (int other = 0; other < 3; other++) {
                due("same(" + one + ", " + other + ") of none", new DotCover().same(one, other), 65535);
                DotCover x = with(0, 0, 0, 3, 0, 3, 3, 0, 3);
                boolean alike = one == other || one > 0 && other > 0;
                due("same(" + one + ", " + other + ")", x.same(one, other), alike ? 65535 : 65534);
            }
        }
    }

    // ---- 3 images

    private static void imageOutside() {
        sentence("image: an IMAGE (0, 1): 1. OUTSIDE");
        for (int k : NEITHER_0_NOR_1) {
            refused("image(" + k + ")", OUTSIDE, x -> x.image(k));
        }
        refused("image(32)", OUTSIDE, x -> x.image(32));
        for (int k = 0; k < 2; k++) {
            DotCover x = new DotCover();
            due("image(" + k + ")", x.image(k), 1);
            due("count(4)", x.count(4), 1 << k);
            due("image(" + k + ") again", x.image(k), 1);
            due("count(4) again", x.count(4), 1 << k);
            due("restore of the other", x.restore(1 - k), STATE);
        }
    }

    private static void imageInPlaceOfWhatWasKept() {
        sentence("image: in place of what was kept there");
        for (int k = 0; k < 2; k++) {
            DotCover x = State.FILLED.make();
            x.image(k);
            x.image(1 - k);
            // Fewer POINTS than before in all LAYERS, and other RULES.
            for (int layer = 0; layer < 3; layer++) {
                for (int gone = 0; gone < 8 - layer; gone++) {
                    x.pop(layer);
                }
                x.rule(layer, layer % 2);
            }
            due("image", x.image(k), 1);
            add(x, 0, 6, 6);
            x.rule(0, 1);
            x.restore(k);
            duePath(x, 0);
            duePath(x, 1, 9, 9);
            duePath(x, 2, 0, 0, 12, 0);
            for (int layer = 0; layer < 3; layer++) {
                due("rule", x.count(10 + layer), layer % 2);
            }
            x.restore(1 - k);
            due("the other image", x.count(3), 24);
            due("the other image's rule", x.count(12), 1);
        }
    }

    private static void imageOfNothing() {
        sentence("A new object: no POINTS; no IMAGE is kept");
        unchanged("nothing", new DotCover(), State.NEW.make());
        sentence("image, restore: what was kept may be without POINTS");
        DotCover x = new DotCover();
        due("image(1) of nothing", x.image(1), 1);
        due("count(4)", x.count(4), 2);
        for (int k = 0; k < 8; k++) {
            x.point(0, k, k);
        }
        x.rule(2, 1);
        due("restore(1)", x.restore(1), 1);
        due("points", x.count(3), 0);
        due("rule", x.count(12), 0);
        due("pop", x.pop(0), STATE);
        due("best", x.best(0, 2), NONE);
        due("count(4)", x.count(4), 2);
    }

    private static void restoreOutside() {
        sentence("restore: OUTSIDE");
        for (int k : NEITHER_0_NOR_1) {
            refused("restore(" + k + ")", OUTSIDE, x -> x.restore(k));
        }
        refused("restore(32)", OUTSIDE, x -> x.restore(32));
    }

    private static void restoreState() {
        sentence("restore: STATE: nothing was kept in it");
        refusedIn(State.NEW, "restore(0)", STATE, x -> x.restore(0));
        refusedIn(State.NEW, "restore(1)", STATE, x -> x.restore(1));
        refusedIn(State.SOME, "restore(0)", STATE, x -> x.restore(0));
        DotCover x = with(0, 4, 5);
        due("image(0)", x.image(0), 1);
        due("restore(1)", x.restore(1), STATE);
        due("restore(0)", x.restore(0), 1);
        due("image(1)", x.image(1), 1);
        due("restore(1)", x.restore(1), 1);
        duePath(x, 0, 4, 5);
    }

    private static void restoreLeavesImages() {
        sentence("restore: All but IMAGES is as it was when it was kept; the IMAGE stays");
        DotCover x = with(0, 1, 1);
        x.image(0);
        x.point(0, 2, 2);
        x.image(1);
        // When IMAGE 0 was kept IMAGE 1 was not; it stays kept all the same.
        due("restore(0)", x.restore(0), 1);
        due("count(4)", x.count(4), 3);
        duePath(x, 0, 1, 1);
        // Every call that changes something, and none changes the IMAGE.
        x.set(0, 0, 9, 9);
        x.point(0, 8, 8);
        x.point(1, 7, 7);
        x.point(0, 6, 6);
        x.move(0, 1, 1);
        x.back(0);
        x.begin(0, 1);
        x.pop(0);
        x.rule(0, 1);
        due("restore(0) again", x.restore(0), 1);
        duePath(x, 0, 1, 1);
        duePath(x, 1);
        due("rule", x.count(10), 0);
        due("restore(1)", x.restore(1), 1);
        duePath(x, 0, 1, 1, 2, 2);
        due("restore(1) again", x.restore(1), 1);
        duePath(x, 0, 1, 1, 2, 2);
        due("count(4)", x.count(4), 3);
    }

    private static void countOutside() {
        sentence("count: a LAYER (its number, 0 to 2), of all (3), IMAGES (4), the RULE (10 and its number). OUTSIDE");
        int[] between = IntStream.rangeClosed(5, 9).toArray();
        for (int what : between) {
            refused("count(" + what + ")", OUTSIDE, x -> x.count(what));
        }
        for (int what : beyond(0, 12)) {
            refused("count(" + what + ")", OUTSIDE, x -> x.count(what));
        }
    }

    private static void countOfNoneAndOfMany() {
        sentence("count");
        int[][] want = {{0, 0, 0, 0, 0, 0, 0, 0}, {3, 0, 1, 4, 2, 0, 1, 0}, {8, 8, 8, 24, 3, 0, 1, 1}};
        for (State state : State.values()) {
            DotCover x = state.make();
            int[] due = want[state.ordinal()];
            for (int i = 0; i < 8; i++) {
                int what = i < 5 ? i : i + 5;
                due("count(" + what + ") in " + state, x.count(what), due[i]);
            }
        }
    }
}
