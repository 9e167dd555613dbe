import java.util.ArrayList;
import java.util.List;

/**
 * All that an object tells, row by row, IMAGES too: objects whose rows are equal are in the same state.
 * Asking takes some 300 calls and leaves the object as one of its IMAGES has it.
 */
final class Told {
    private Told() {
    }

    static List<String> by(DotCover x) {
        List<String> rows = new ArrayList<>();
        paths(x, "now", rows);
        for (int dot = 0; dot < 16; dot++) {
            for (int layer = 0; layer < 3; layer++) {
                rows.add("raw(" + layer + ", " + dot + ") " + x.raw(layer, dot, 0) + " by " + x.raw(layer, dot, 1));
            }
            rows.add("together(" + dot + ") " + x.together(dot, 0) + " by " + x.together(dot, 1));
        }
        rows.add("images " + x.count(4));
        for (int k = 0; k < 2; k++) {
            int restored = x.restore(k);
            rows.add("restore(" + k + ") " + restored);
            if (restored == 1) {
                paths(x, "image " + k, rows);
            }
        }
        return rows;
    }

    private static void paths(DotCover x, String of, List<String> rows) {
        for (int layer = 0; layer < 3; layer++) {
            int points = x.count(layer);
            StringBuilder row = new StringBuilder(of + ", layer " + layer + ", rule " + x.count(10 + layer) + ":");
            for (int k = 0; k < points; k++) {
                row.append(" (").append(x.at(layer, k, 0)).append(", ").append(x.at(layer, k, 1)).append(")");
            }
            rows.add(row.toString());
        }
        rows.add(of + ", all points " + x.count(3));
    }
}
