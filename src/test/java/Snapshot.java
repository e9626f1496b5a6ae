import java.util.ArrayList;
import java.util.List;

/**
 * What can be told of an object without changing it, but for REFUSALS. Of many
 * orders, trades and elements only some are told: an object lives for 512 calls.
 */
final class Snapshot {
    private Snapshot() {
    }

    static List<String> of(UncrossedBook x) {
        List<String> all = new ArrayList<>();
        for (int what = 0; what < 7; what++) {
            all.add("status(" + what + ") = " + x.status(what));
        }
        all.add("fault() = " + x.fault());
        orders(x, all);
        trades(x, all);
        shelves(x, all);
        return all;
    }

    private static void orders(UncrossedBook x, List<String> all) {
        int n = x.status(0);
        for (int o = 0; o < n; o++) {
            if (o < 6 || o == n - 1) {
                for (int what = 3; what < 8; what++) {
                    all.add("orderOf(" + o + ", " + what + ") = " + x.orderOf(o, what));
                }
            }
        }
        for (int side = 0; side < 2; side++) {
            for (int i = 0; i < 4; i++) {
                all.add("rank(" + side + ", " + i + ") = " + x.rank(side, i));
            }
        }
    }

    private static void trades(UncrossedBook x, List<String> all) {
        int n = x.trades();
        all.add("trades() = " + n);
        for (int i = 0; i < Math.min(n, 2); i++) {
            for (int what = 0; what < 4; what++) {
                all.add("trade(" + i + ", " + what + ") = " + x.trade(i, what));
            }
        }
        for (int owner = 0; owner < 8; owner++) {
            all.add("position(" + owner + ") = " + x.position(owner));
            all.add("cash(" + owner + ") = " + x.cash(owner));
        }
    }

    private static void shelves(UncrossedBook x, List<String> all) {
        for (int s = 0; s < 8; s++) {
            all.add("holds(" + s + ") = " + x.holds(s));
            for (int i = 0; i < 3; i++) {
                all.add("element(" + s + ", " + i + ") = " + x.element(s, i));
            }
        }
    }

    /** The first that is told otherwise; empty if none is. */
    static String difference(List<String> before, List<String> after) {
        for (int i = 0; i < Math.min(before.size(), after.size()); i++) {
            if (!before.get(i).equals(after.get(i))) {
                return before.get(i) + ", then " + after.get(i);
            }
        }
        return before.size() == after.size() ? "" : "how much is told";
    }
}
