import java.util.function.Supplier;
import java.util.function.ToLongFunction;

/** Edges of "REFUSALS". */
public final class EdgeRefusalsTest {
    private static final Edge REFUSALS = Edge.ahead("REFUSALS");
    private static final String ORDER = "the first that fits, in this order):";

    private EdgeRefusalsTest() {
    }

    public static void main(String[] args) {
        add();
        Edge.run();
    }

    static void add() {
        answers();
        nobody();
        other();
        nothing();
        below();
        beyond();
        wrong();
        room();
        orderOfShelves();
        orderOfComers();
        orderOfOthers();
        orderOfTold();
    }

    private static void answers() {
        String answers = "(the call answers the number;";
        REFUSALS.holds(answers, "-1 to -7", Books::full, x -> {
            x.show(0, 58);
            x.row(1, 0, 1);
            Due.is("-1", x.cancel(60), -1);
            Due.is("-2", x.set(0, 0, 0), -2);
            Due.is("-3", x.read(2), -3);
            Due.is("-4", x.row(1, 0, -1), -4);
            Due.is("-5", x.trade(0, 0), -5);
            Due.is("-6", x.rule(4), -6);
            Due.is("-7", x.halt(0, 0, 1, 1), -7);
        });
        String changes = "nothing changes but how many there were;";
        REFUSALS.refuses(changes, "a ROW that is refused leaves the old one", Books::rich, x -> x.row(0, 3, 161), -7);
        REFUSALS.refuses(changes, "an ORDER that is refused has no number", Books::rich, x -> x.limit(0, 0, 5, 510, 3), -6);
        REFUSALS.refuses(changes, "DRAWS that are refused draw nothing", Books::rich, x -> x.draws(21), -6);
        REFUSALS.refuses(changes, "an AMENDED one keeps its QUANTITY", Books::rich, x -> x.amend(0, 4, 1000), -6);
        REFUSALS.refuses(changes, "a RULE stays", Books::rich, x -> x.rule(4), -6);
        REFUSALS.refuses(changes, "a TEXT without room lets nothing come", () -> {
            UncrossedBook x = Books.withOrders(59);
            Books.write(x, 0, 0, "a+5@500;b-5@500");
            return x;
        }, x -> x.read(0), -7);
        REFUSALS.holds(changes, "how many: each is counted, again and again", x -> {
            for (int i = 1; i <= 100; i++) {
                x.cancel(0);
            }
            Due.are("refusals", Books.refusals(x), 100, 0, 0, 0, 0, 0, 0);
        });
        REFUSALS.holds(changes, "how many: what is answered isn't counted", Books::rich, x -> {
            long[] before = Books.refusals(x);
            Snapshot.of(x);
            Due.are("refusals", Books.refusals(x), before);
        });
    }

    private static void refused(String sentence, String edge, ToLongFunction<UncrossedBook> call, long answer) {
        REFUSALS.refuses(sentence, edge, Books::rich, call, answer);
    }

    private static void nobody() {
        String nobody = "-1 NOBODY: no such SHELF, ORDER, OWNER, SIDE, KIND.";
        refused(nobody, "SHELF -1", x -> x.row(-1, 0, 1), -1);
        refused(nobody, "SHELF 8", x -> x.read(8), -1);
        refused(nobody, "ORDER -1", x -> x.cancel(-1), -1);
        refused(nobody, "ORDER as many as there are", x -> x.show(0, 6), -1);
        refused(nobody, "OWNER -1", x -> x.position(-1), -1);
        refused(nobody, "OWNER 8", x -> x.market(8, 0, 1), -1);
        refused(nobody, "SIDE -1", x -> x.halt(0, -1, 1, 1), -1);
        refused(nobody, "SIDE 2", x -> x.pegged(0, 2, 1, 1), -1);
        refused(nobody, "KIND -1", x -> x.says(1, -1), -1);
        refused(nobody, "KIND 5", x -> x.says(1, 5), -1);
    }

    private static void other() {
        String other = "-2 OTHER: a SHELF that holds an ORDER where a ROW is wanted, or the other way about,"
                + " ROWS of two SORTS, an ORDER that isn't of the KIND wanted, or one under it.";
        refused(other, "an ORDER for set()", x -> x.set(1, 0, 1), -2);
        refused(other, "an ORDER for copy()", x -> x.copy(0, 1, 0, 0, 1), -2);
        refused(other, "an ORDER for read()", x -> x.read(1), -2);
        refused(other, "an ORDER for judge()", x -> x.judge(1, 0), -12);
        refused(other, "a ROW for says()", x -> x.says(0, 0), -2);
        refused(other, "ROWS of two SORTS", x -> x.copy(0, 2, 0, 0, 0), -2);
        refused(other, "a HIDDEN one where a PEGGED one is wanted", x -> x.says(1, 3), -2);
        refused(other, "a HIDDEN one where a STOP is wanted", x -> x.says(1, 4), -2);
        REFUSALS.refuses(other, "a LIMIT one where a HIDDEN one is wanted: it isn't under it", () -> {
            UncrossedBook x = Books.rich();
            x.show(0, 0);
            return x;
        }, x -> x.says(0, 2), -2);
        REFUSALS.answers(other, "a HIDDEN one where a LIMIT one is wanted: it is under it", Books::rich,
                x -> x.says(1, 1), 490);
        REFUSALS.answers(other, "a HIDDEN one where an ORDER is wanted: it is under it", Books::rich,
                x -> x.says(1, 0), 17);
    }

    private static void nothing() {
        String nothing = "-3 NOTHING: a SHELF that holds NOTHING.";
        refused(nothing, "for set()", x -> x.set(3, 0, 1), -3);
        refused(nothing, "for copy() from it", x -> x.copy(3, 0, 0, 0, 1), -3);
        refused(nothing, "for copy() to it", x -> x.copy(0, 3, 0, 0, 1), -3);
        refused(nothing, "for says()", x -> x.says(3, 0), -3);
        refused(nothing, "for read()", x -> x.read(3), -3);
        refused(nothing, "for judge()", x -> x.judge(3, 0), -13);
        REFUSALS.holds(nothing, "a ROW with no element isn't NOTHING", x -> {
            x.row(0, 0, 0);
            Due.is("set(0, 0, 1)", x.set(0, 0, 1), -5);
            Due.is("copy(0, 0, 0, 0, 0)", x.copy(0, 0, 0, 0, 0), 1);
            Due.is("read(0)", x.read(0), -6);
            Due.is("judge(0, 0)", x.judge(0, 0), -1);
        });
    }

    private static void below() {
        String below = "-4 BELOW: a size below 0.";
        refused(below, "row() of -1", x -> x.row(0, 0, -1), -4);
        refused(below, "copy() of -1", x -> x.copy(0, 4, 0, 0, -1), -4);
        refused(below, "judge() of -1", x -> x.judge(5, -1), -14);
        REFUSALS.holds(below, "0 isn't below", Books::rich, x -> {
            Due.is("row", x.row(0, 0, 0), 1);
            Due.is("copy", x.copy(4, 4, 0, 0, 0), 1);
            Due.is("judge", x.judge(5, 0), -1);
            Due.is("status(14)", x.status(14), 0);
        });
    }

    private static void beyond() {
        String beyond = "-5 BEYOND: an element that isn't there; nothing such to be told of.";
        refused(beyond, "element -1", x -> x.set(0, -1, 1), -5);
        refused(beyond, "element as many as there are", x -> x.set(0, 3, 1), -5);
        refused(beyond, "the end of a copy()", x -> x.copy(0, 4, 0, 0, 4), -5);
        refused(beyond, "orderOf() of no such ORDER", x -> x.orderOf(6, 0), -5);
        refused(beyond, "orderOf() of another what", x -> x.orderOf(0, 8), -5);
        refused(beyond, "trade() of no such TRADE", x -> x.trade(2, 0), -5);
        refused(beyond, "trade() of another what", x -> x.trade(0, 4), -5);
        refused(beyond, "depth() of another what", x -> x.depth(0, 0, 2), -15);
        refused(beyond, "judge() of fewer elements", x -> x.judge(5, 2), -15);
        REFUSALS.refuses(beyond, "crossing() of another what", Books::richAuction, x -> x.crossing(2), -5);
    }

    private static void wrong() {
        String wrong = "-6 WRONG: a number that may not be, a FAULT, what can't be as things stand.";
        refused(wrong, "a SORT", x -> x.row(0, 4, 1), -6);
        refused(wrong, "a QUANTITY", x -> x.market(0, 0, 0), -6);
        refused(wrong, "a PRICE", x -> x.limit(0, 0, 1, 1000, 0), -6);
        refused(wrong, "a how", x -> x.limit(0, 0, 1, 1, 3), -6);
        refused(wrong, "a SHOW", x -> x.hidden(0, 0, 1, 1, 0), -6);
        refused(wrong, "an OFFSET", x -> x.pegged(0, 0, 1, 100), -6);
        refused(wrong, "a TRIGGER", x -> x.halt(0, 0, 1, 0), -6);
        refused(wrong, "a RULE", x -> x.rule(-1), -6);
        refused(wrong, "how many DRAWS", x -> x.draws(0), -6);
        refused(wrong, "a SWEEP's QUANTITY", x -> x.sweep(0, 0), -16);
        refused(wrong, "a FAULT", x -> x.read(6), -6);
        refused(wrong, "cancel() of one that is GONE", x -> x.cancel(4), -6);
        refused(wrong, "amend() of a PEGGED one", x -> x.amend(2, 5, 489), -6);
        refused(wrong, "uncross() when it is OPEN", x -> x.uncross(), -6);
        refused(wrong, "crossing() when it is OPEN", x -> x.crossing(0), -6);
        refused(wrong, "restore() without an IMAGE", x -> x.restore(), -6);
        REFUSALS.refuses(wrong, "close() in the AUCTION", Books::richAuction, x -> x.close(), -6);
        REFUSALS.refuses(wrong, "market() in the AUCTION", Books::richAuction, x -> x.market(0, 0, 1), -6);
    }

    private static void room() {
        String room = "-7 ROOM: more than may be.";
        refused(room, "161 elements", x -> x.row(0, 0, 161), -7);
        REFUSALS.refuses(room, "a 61st LIMIT one", Books::full, x -> x.limit(0, 0, 1, 1, 0), -7);
        REFUSALS.refuses(room, "a 61st NOW one", Books::full, x -> x.limit(0, 0, 1, 1, 1), -7);
        REFUSALS.refuses(room, "a 61st HIDDEN one", Books::full, x -> x.hidden(0, 0, 1, 1, 1), -7);
        REFUSALS.refuses(room, "a 61st PEGGED one", Books::full, x -> x.pegged(0, 0, 1, 1), -7);
        REFUSALS.refuses(room, "a 61st STOP", Books::full, x -> x.halt(0, 0, 1, 1), -7);
        REFUSALS.holds(room, "160 elements and 60 ORDERS may be", () -> Books.withOrders(59), x -> {
            Due.is("row", x.row(0, 0, 160), 1);
            Due.is("limit", x.limit(0, 0, 1, 1, 0), 59);
            Due.is("status(17)", x.status(17), 0);
        });
    }

    private static void first(String edge, Supplier<UncrossedBook> from, ToLongFunction<UncrossedBook> call,
            long answer) {
        REFUSALS.refuses(ORDER, edge, from, call, answer);
    }

    private static void orderOfShelves() {
        first("row: -1 ahead of -4", Books::rich, x -> x.row(8, 0, -1), -1);
        first("row: -1 ahead of -6", Books::rich, x -> x.row(8, 4, 1), -1);
        first("row: -1 ahead of -7", Books::rich, x -> x.row(8, 0, 161), -1);
        first("row: -4 ahead of -6", Books::rich, x -> x.row(0, 4, -1), -4);
        first("row: -6 ahead of -7", Books::rich, x -> x.row(0, 4, 161), -6);
        first("set: -1 ahead of -5", Books::rich, x -> x.set(8, -1, 1), -1);
        first("set: -2 ahead of -5", Books::rich, x -> x.set(1, -1, 1), -2);
        first("set: -3 ahead of -5", Books::rich, x -> x.set(3, -1, 1), -3);
        first("copy: -1 of p ahead of -2", Books::rich, x -> x.copy(8, 1, 0, 0, 1), -1);
        first("copy: -1 of q ahead of -2", Books::rich, x -> x.copy(1, 8, 0, 0, 1), -1);
        first("copy: -1 ahead of -3", Books::rich, x -> x.copy(3, 8, 0, 0, 1), -1);
        first("copy: -1 ahead of -4", Books::rich, x -> x.copy(0, 8, 0, 0, -1), -1);
        first("copy: -1 ahead of -5", Books::rich, x -> x.copy(0, 8, 9, 0, 1), -1);
        first("copy: -2 of p ahead of -3", Books::rich, x -> x.copy(1, 3, 0, 0, 1), -2);
        first("copy: -2 of q ahead of -3", Books::rich, x -> x.copy(3, 1, 0, 0, 1), -2);
        first("copy: -2 ahead of -4", Books::rich, x -> x.copy(0, 2, 0, 0, -1), -2);
        first("copy: -2 ahead of -5", Books::rich, x -> x.copy(0, 2, 9, 0, 1), -2);
        first("copy: -3 ahead of -4", Books::rich, x -> x.copy(0, 3, 0, 0, -1), -3);
        first("copy: -3 ahead of -5", Books::rich, x -> x.copy(3, 0, 9, 0, 1), -3);
        first("copy: -4 ahead of -5", Books::rich, x -> x.copy(0, 4, -1, 9, -1), -4);
        first("says: -1 of a KIND ahead of -2 of a ROW", Books::rich, x -> x.says(0, 5), -1);
        first("says: -1 of a KIND ahead of -3", Books::rich, x -> x.says(3, -1), -1);
    }

    private static void orderOfComers() {
        first("limit: -1 ahead of -6", Books::rich, x -> x.limit(8, 0, 0, 0, 3), -1);
        first("limit: -1 of a SIDE ahead of -6", Books::rich, x -> x.limit(0, 2, 0, 0, 3), -1);
        first("limit: -1 ahead of -7", Books::full, x -> x.limit(8, 0, 1, 1, 0), -1);
        first("limit: -6 of a QUANTITY ahead of -7", Books::full, x -> x.limit(0, 0, 0, 1, 0), -6);
        first("limit: -6 of a PRICE ahead of -7", Books::full, x -> x.limit(0, 0, 1, 0, 0), -6);
        first("limit: -6 of a how ahead of -7", Books::full, x -> x.limit(0, 0, 1, 1, 3), -6);
        first("hidden: -1 ahead of -6", Books::rich, x -> x.hidden(-1, 0, 0, 0, 0), -1);
        first("hidden: -1 ahead of -7", Books::full, x -> x.hidden(0, 2, 1, 1, 1), -1);
        first("hidden: -6 ahead of -7", Books::full, x -> x.hidden(0, 0, 1, 1, 0), -6);
        first("pegged: -1 ahead of -6", Books::rich, x -> x.pegged(8, 0, 0, 100), -1);
        first("pegged: -1 ahead of -7", Books::full, x -> x.pegged(0, -1, 1, 1), -1);
        first("pegged: -6 ahead of -7", Books::full, x -> x.pegged(0, 0, 1, 100), -6);
        first("halt: -1 ahead of -6", Books::rich, x -> x.halt(0, 2, 0, 0), -1);
        first("halt: -1 ahead of -7", Books::full, x -> x.halt(8, 0, 1, 1), -1);
        first("halt: -6 ahead of -7", Books::full, x -> x.halt(0, 0, 1, 0), -6);
        first("market: -1 ahead of -6 of a QUANTITY", Books::rich, x -> x.market(8, 0, 0), -1);
        first("market: -1 ahead of -6 in the AUCTION", Books::richAuction, x -> x.market(0, 2, 1), -1);
        REFUSALS.holds(ORDER, "read: -6 ahead of -7", Books::full, x -> {
            Books.write(x, 0, 0, "a+1@1;");
            Due.is("read(0)", x.read(0), -6);
            Due.are("refusals", Books.refusals(x), 0, 0, 0, 0, 0, 1, 0);
        });
    }

    private static void orderOfOthers() {
        first("amend: -1 ahead of -6", Books::rich, x -> x.amend(6, 0, 0), -1);
        first("crossing: -5 ahead of -6", Books::rich, x -> x.crossing(2), -5);
        first("show: -1 of a SHELF, or of an ORDER: one alone is counted", Books::rich, x -> x.show(8, 60), -1);
    }

    private static void orderOfTold() {
        first("depth: -11 ahead of -15", Books::rich, x -> x.depth(2, 0, 2), -11);
        first("sweep: -11 ahead of -16", Books::rich, x -> x.sweep(2, 0), -11);
        first("judge: -11 ahead of -14", Books::rich, x -> x.judge(8, -1), -11);
        first("judge: -12 ahead of -14", Books::rich, x -> x.judge(1, -1), -12);
        first("judge: -12 ahead of -15", Books::rich, x -> x.judge(1, 1), -12);
        first("judge: -13 ahead of -14", Books::rich, x -> x.judge(3, -1), -13);
        first("judge: -13 ahead of -15", Books::rich, x -> x.judge(3, 41), -13);
        first("judge: -15 ahead of -16", Books::rich, x -> x.judge(5, 41), -15);
    }
}
