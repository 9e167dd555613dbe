import java.math.BigInteger;
import java.util.ArrayList;
import java.util.List;
import java.util.Random;
import java.util.TreeSet;

/**
 * RAW by the document's own words, exactly: each DOT is cut into pieces that no PATH goes through, TURNS are
 * asked at one place of each piece, and the pieces' areas are added, times their TURNS.
 */
public final class TurnsTest {
    private static final Check CHECK = new Check("TurnsTest");
    private static final Exact NINE = Exact.of(9);
    private static final Exact HALF = Exact.of(1).by(Exact.of(2));

    public static void main(String[] args) {
        piecesThemselves();
        Random random = new Random(11);
        for (int trial = 0; trial < 60; trial++) {
            int[] path = new int[2 * (1 + trial % 8)];
            for (int i = 0; i < path.length; i++) {
                // Every third PATH keeps to the DOTS' sides, where edges lie on one another.
                path[i] = trial % 3 == 0 ? 3 * random.nextInt(5) : random.nextInt(13);
            }
            dueByPieces("trial " + trial, path);
        }
        dueByPieces("three times round", 3, 0, 12, 6, 0, 6, 6, 0, 6, 12, 0, 3, 12, 3, 3, 12);
        dueByPieces("an eight", 0, 0, 12, 12, 12, 0, 0, 12);
        dueByPieces("there and back", 1, 1, 11, 10, 1, 1, 4, 9);
        dueByPieces("fine lines", 8, 1, 11, 2, 0, 9, 6, 9, 10, 4, 1, 11, 10, 3, 8, 4);
        CHECK.end();
    }

    /** The pieces are right where RAW can be told by hand: half a DOT, against the clock and with it. */
    private static void piecesThemselves() {
        int[] half = {0, 0, 3, 0, 0, 3};
        int[] back = {0, 3, 3, 0, 0, 0};
        CHECK.holds("half of DOT 0", rawByPieces(half, 0).compareTo(HALF) == 0);
        CHECK.holds("less half of DOT 0", rawByPieces(back, 0).plus(HALF).sign() == 0);
        CHECK.holds("none of DOT 1", rawByPieces(half, 1).sign() == 0);
    }

    private static void dueByPieces(String name, int... path) {
        DotCover x = new DotCover();
        for (int i = 0; i < path.length; i += 2) {
            x.point(2, path[i], path[i + 1]);
        }
        Exact area = Exact.of(0);
        for (int dot = 0; dot < 16; dot++) {
            Exact raw = rawByPieces(path, dot);
            CHECK.due(name + ", raw of " + dot, x.raw(2, dot, 0), x.raw(2, dot, 1), raw.upper(), raw.lower());
            area = area.plus(raw.times(NINE));
        }
        CHECK.due(name + ", area", x.area(2, 0), x.area(2, 1), area.upper(), area.lower());
    }

    /** Upright strips between all places where edges begin, end or meet; pieces lie between two edges there. */
    private static Exact rawByPieces(int[] path, int dot) {
        int left = 3 * (dot % 4);
        int low = 3 * (dot / 4);
        List<Edge> edges = edges(path);
        List<Edge> lines = new ArrayList<>(edges);
        lines.add(new Edge(left, low, left + 3, low));
        lines.add(new Edge(left, low + 3, left + 3, low + 3));
        Exact sum = Exact.of(0);
        Exact from = null;
        for (Exact to : cuts(lines, Exact.of(left), Exact.of(left + 3))) {
            if (from != null) {
                Exact middle = from.plus(to).times(HALF);
                sum = sum.plus(strip(edges, lines, middle, low).times(to.minus(from)));
            }
            from = to;
        }
        return sum.by(NINE);
    }

    /** The edges that are not upright: those hold no piece from above or below. */
    private static List<Edge> edges(int[] path) {
        List<Edge> edges = new ArrayList<>();
        for (int i = 0; i < path.length; i += 2) {
            int next = (i + 2) % path.length;
            if (path[i] != path[next]) {
                edges.add(new Edge(path[i], path[i + 1], path[next], path[next + 1]));
            }
        }
        return edges;
    }

    private static TreeSet<Exact> cuts(List<Edge> lines, Exact left, Exact right) {
        TreeSet<Exact> all = new TreeSet<>();
        for (Edge one : lines) {
            all.add(Exact.of(one.x1));
            all.add(Exact.of(one.x2));
            for (Edge other : lines) {
                Exact apart = one.slope().minus(other.slope());
                if (apart.sign() != 0) {
                    all.add(other.height(Exact.of(0)).minus(one.height(Exact.of(0))).by(apart));
                }
            }
        }
        return new TreeSet<>(all.subSet(left, true, right, true));
    }

    /** In a strip a piece is as high in the middle as in the mean: its area is that, times the strip's width. */
    private static Exact strip(List<Edge> edges, List<Edge> lines, Exact middle, int low) {
        TreeSet<Exact> heights = new TreeSet<>();
        for (Edge line : lines) {
            if (line.isOver(middle)) {
                heights.add(line.height(middle));
            }
        }
        Exact sum = Exact.of(0);
        Exact from = null;
        for (Exact to : heights.subSet(Exact.of(low), true, Exact.of(low + 3), true)) {
            if (from != null) {
                int turns = turns(edges, middle, from.plus(to).times(HALF));
                sum = sum.plus(to.minus(from).times(Exact.of(turns)));
            }
            from = to;
        }
        return sum;
    }

    /** Edges above a place that go to the left go round it against the clock, those to the right with it. */
    private static int turns(List<Edge> edges, Exact px, Exact py) {
        int turns = 0;
        for (Edge edge : edges) {
            if (edge.isOver(px) && edge.height(px).compareTo(py) > 0) {
                turns += edge.x2 < edge.x1 ? 1 : -1;
            }
        }
        return turns;
    }

    private record Edge(int x1, int y1, int x2, int y2) {
        Exact slope() {
            return Exact.of(y2 - y1).by(Exact.of(x2 - x1));
        }

        Exact height(Exact x) {
            return Exact.of(y1).plus(slope().times(x.minus(Exact.of(x1))));
        }

        boolean isOver(Exact x) {
            return x.compareTo(Exact.of(Math.min(x1, x2))) > 0 && x.compareTo(Exact.of(Math.max(x1, x2))) < 0;
        }
    }

    /** A fraction of any size, in lowest terms, its lower number above 0. */
    private record Exact(BigInteger up, BigInteger low) implements Comparable<Exact> {
        static Exact of(long whole) {
            return new Exact(BigInteger.valueOf(whole), BigInteger.ONE);
        }

        private static Exact lowest(BigInteger up, BigInteger low) {
            BigInteger divisor = low.signum() < 0 ? up.gcd(low).negate() : up.gcd(low);
            return new Exact(up.divide(divisor), low.divide(divisor));
        }

        Exact plus(Exact o) {
            return lowest(up.multiply(o.low).add(o.up.multiply(low)), low.multiply(o.low));
        }

        Exact minus(Exact o) {
            return plus(new Exact(o.up.negate(), o.low));
        }

        Exact times(Exact o) {
            return lowest(up.multiply(o.up), low.multiply(o.low));
        }

        Exact by(Exact o) {
            return lowest(up.multiply(o.low), low.multiply(o.up));
        }

        int sign() {
            return up.signum();
        }

        long upper() {
            return up.longValueExact();
        }

        long lower() {
            return low.longValueExact();
        }

        @Override
        public int compareTo(Exact o) {
            return up.multiply(o.low).compareTo(o.up.multiply(low));
        }
    }
}
