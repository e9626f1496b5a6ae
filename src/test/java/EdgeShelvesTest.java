/** Edges of promises 1 to 8: a new object, ROWS and SHELVES. */
public final class EdgeShelvesTest {
    private static final int LEAST = Integer.MIN_VALUE;
    private static final int MOST = Integer.MAX_VALUE;

    private EdgeShelvesTest() {
    }

    public static void main(String[] args) {
        add();
        Edge.run();
    }

    static void add() {
        newObject();
        row();
        rowRefusals();
        set();
        copy();
        copyRefusals();
        element();
        show();
        holds();
        says();
        saysOfHidden();
        saysOfPegged();
        saysRefusals();
    }

    private static void newObject() {
        Edge t = Edge.promise(1);
        t.holds("No ORDERS;", "none is counted, none has number 0", x -> {
            Due.is("status(0)", x.status(0), 0);
            Due.is("status(1)", x.status(1), 0);
            Due.is("status(2)", x.status(2), 0);
            Due.is("orderOf(0, 0)", x.orderOf(0, 0), -5);
            Due.is("show(0, 0)", x.show(0, 0), -1);
            Due.is("rank(0, 0)", x.rank(0, 0), -1);
            Due.is("rank(1, 0)", x.rank(1, 0), -1);
            Due.is("image()", x.image(), 0);
            Due.is("uncross()", x.uncross(), 0);
        });
        t.holds("AUCTION, RULE 0.", "PHASE 0", x -> {
            Due.is("status(3)", x.status(3), 0);
            Due.is("close()", x.close(), -6);
        });
        t.holds("AUCTION, RULE 0.", "RULE 0", x -> {
            Due.is("status(4)", x.status(4), 0);
            Due.is("rule(0)", x.rule(0), 0);
        });
    }

    private static void row() {
        Edge t = Edge.promise(2);
        String holds = "SHELF s holds a new ROW: 1.";
        t.holds(holds, "n 0: a ROW, with no element", x -> {
            Due.is("row(0, 2, 0)", x.row(0, 2, 0), 1);
            Due.is("holds(0)", x.holds(0), 102);
            Due.is("set(0, 0, 1)", x.set(0, 0, 1), -5);
        });
        t.holds(holds, "n 160: the last element is 159", x -> {
            Due.is("row(0, 3, 160)", x.row(0, 3, 160), 1);
            Due.is("set(0, 159, 9)", x.set(0, 159, 9), 1);
            Due.is("set(0, 160, 9)", x.set(0, 160, 9), -5);
        });
        t.holds(holds, "SHELVES 0 and 7", x -> {
            Due.is("row(0, 1, 1)", x.row(0, 1, 1), 1);
            Due.is("row(7, 1, 1)", x.row(7, 1, 1), 1);
            Due.is("holds(7)", x.holds(7), 101);
        });
        t.holds(holds, "SORTS 0 and 3", x -> {
            Due.is("row(0, 0, 1)", x.row(0, 0, 1), 1);
            Due.is("holds(0)", x.holds(0), 100);
            Due.is("row(0, 3, 1)", x.row(0, 3, 1), 1);
            Due.is("holds(0)", x.holds(0), 103);
        });
        t.holds(holds, "where a ROW was: its elements are 0 again", x -> {
            Books.putRow(x, 0, 2, 7, 8, 9);
            x.row(0, 2, 3);
            Due.are("elements", Books.elements(x, 0, 3), 0, 0, 0);
        });
        t.holds(holds, "where a longer ROW was: what was beyond isn't there", x -> {
            Books.putRow(x, 0, 2, 7, 8, 9);
            x.row(0, 2, 1);
            Due.is("set(0, 1, 1)", x.set(0, 1, 1), -5);
            Due.is("element(0, 2)", x.element(0, 2), 0);
        });
        t.holds(holds, "where an ORDER was", Books::rich, x -> {
            Due.is("row(1, 0, 1)", x.row(1, 0, 1), 1);
            Due.is("holds(1)", x.holds(1), 100);
            Due.is("says(1, 0)", x.says(1, 0), -2);
            Due.is("set(1, 0, 4)", x.set(1, 0, 4), 1);
            Due.is("copy(1, 0, 0, 0, 1)", x.copy(1, 0, 0, 0, 1), 1);
        });
    }

    private static void rowRefusals() {
        Edge t = Edge.promise(2);
        t.refuses("-1;", "SHELF -1", Books::rich, x -> x.row(-1, 0, 1), -1);
        t.refuses("-1;", "SHELF 8", Books::rich, x -> x.row(8, 0, 1), -1);
        t.refuses("-1;", "SHELF least", Books::rich, x -> x.row(LEAST, 0, 1), -1);
        t.refuses("-1;", "SHELF most", Books::rich, x -> x.row(MOST, 0, 1), -1);
        t.refuses("-4;", "n -1", Books::rich, x -> x.row(0, 0, -1), -4);
        t.refuses("-4;", "n least", Books::rich, x -> x.row(0, 0, LEAST), -4);
        t.refuses("-6 SORT;", "SORT -1", Books::rich, x -> x.row(0, -1, 1), -6);
        t.refuses("-6 SORT;", "SORT 4", Books::rich, x -> x.row(0, 4, 1), -6);
        t.refuses("-7 n above 160.", "n 161", Books::rich, x -> x.row(0, 0, 161), -7);
        t.refuses("-7 n above 160.", "n most", Books::rich, x -> x.row(0, 0, MOST), -7);
        t.refuses("-7 n above 160.", "n 161, where an ORDER is", Books::rich, x -> x.row(1, 0, 161), -7);
    }

    private static void set() {
        Edge t = Edge.promise(3);
        String becomes = "Element i of the ROW becomes v: 1.";
        t.holds(becomes, "the first and the last", x -> {
            x.row(0, 2, 3);
            Due.is("set(0, 0, 4)", x.set(0, 0, 4), 1);
            Due.is("set(0, 2, 5)", x.set(0, 2, 5), 1);
            Due.are("elements", Books.elements(x, 0, 3), 4, 0, 5);
        });
        t.holds(becomes, "the ROW of that SHELF alone", x -> {
            x.row(0, 2, 1);
            x.row(7, 2, 1);
            x.set(7, 0, 6);
            Due.is("element(0, 0)", x.element(0, 0), 0);
            Due.is("element(7, 0)", x.element(7, 0), 6);
        });
        t.refuses("-1;", "SHELF -1", Books::rich, x -> x.set(-1, 0, 1), -1);
        t.refuses("-1;", "SHELF 8", Books::rich, x -> x.set(8, 0, 1), -1);
        t.refuses("-2;", "an ORDER", Books::rich, x -> x.set(1, 0, 1), -2);
        t.refuses("-3;", "NOTHING", Books::rich, x -> x.set(3, 0, 1), -3);
        t.refuses("-5.", "i -1", Books::rich, x -> x.set(0, -1, 1), -5);
        t.refuses("-5.", "i as many as there are", Books::rich, x -> x.set(0, 3, 1), -5);
        t.refuses("-5.", "i least", Books::rich, x -> x.set(0, LEAST, 1), -5);
        t.refuses("-5.", "i most", Books::rich, x -> x.set(0, MOST, 1), -5);
        t.refuses("-5.", "a ROW with no element", () -> {
            UncrossedBook x = Books.rich();
            x.row(0, 0, 0);
            return x;
        }, x -> x.set(0, 0, 1), -5);
    }

    private static UncrossedBook twoRows() {
        UncrossedBook x = new UncrossedBook();
        Books.putRow(x, 0, 2, 1, 2, 3, 4);
        Books.putRow(x, 1, 2, 5, 6, 7);
        return x;
    }

    private static void copy() {
        Edge t = Edge.promise(4);
        String come = "Elements i, i + 1, .. of the ROW in SHELF p, n of them,"
                + " come to elements j, j + 1, .. of that in q (as they were ahead): 1.";
        t.holds(come, "n 0: nothing comes", EdgeShelvesTest::twoRows, x -> {
            Due.is("copy(0, 1, 0, 0, 0)", x.copy(0, 1, 0, 0, 0), 1);
            Due.are("elements of 1", Books.elements(x, 1, 3), 5, 6, 7);
        });
        t.holds(come, "all of p", EdgeShelvesTest::twoRows, x -> {
            Due.is("copy(1, 0, 0, 0, 3)", x.copy(1, 0, 0, 0, 3), 1);
            Due.are("elements of 0", Books.elements(x, 0, 4), 5, 6, 7, 4);
            Due.are("elements of 1", Books.elements(x, 1, 3), 5, 6, 7);
        });
        t.holds(come, "to the end of both", EdgeShelvesTest::twoRows, x -> {
            Due.is("copy(0, 1, 2, 1, 2)", x.copy(0, 1, 2, 1, 2), 1);
            Due.are("elements of 1", Books.elements(x, 1, 3), 5, 3, 4);
        });
        t.holds(come, "in one ROW, up: as they were ahead", EdgeShelvesTest::twoRows, x -> {
            Due.is("copy(0, 0, 0, 1, 3)", x.copy(0, 0, 0, 1, 3), 1);
            Due.are("elements of 0", Books.elements(x, 0, 4), 1, 1, 2, 3);
        });
        t.holds(come, "in one ROW, down: as they were ahead", EdgeShelvesTest::twoRows, x -> {
            Due.is("copy(0, 0, 1, 0, 3)", x.copy(0, 0, 1, 0, 3), 1);
            Due.are("elements of 0", Books.elements(x, 0, 4), 2, 3, 4, 4);
        });
        t.holds(come, "in one ROW, to itself", EdgeShelvesTest::twoRows, x -> {
            Due.is("copy(0, 0, 0, 0, 4)", x.copy(0, 0, 0, 0, 4), 1);
            Due.are("elements of 0", Books.elements(x, 0, 4), 1, 2, 3, 4);
        });
        t.holds(come, "all 160", x -> {
            x.row(0, 3, 160);
            x.row(1, 3, 160);
            x.set(0, 0, 7);
            x.set(0, 159, 8);
            Due.is("copy(0, 1, 0, 0, 160)", x.copy(0, 1, 0, 0, 160), 1);
            Due.is("element(1, 0)", x.element(1, 0), 7);
            Due.is("element(1, 159)", x.element(1, 159), 8);
        });
        t.holds(come, "of ROWS with no element", x -> {
            x.row(0, 1, 0);
            x.row(1, 1, 0);
            Due.is("copy(0, 1, 0, 0, 0)", x.copy(0, 1, 0, 0, 0), 1);
        });
    }

    private static void copyRefusals() {
        Edge t = Edge.promise(4);
        t.refuses("-1;", "p -1", Books::rich, x -> x.copy(-1, 0, 0, 0, 1), -1);
        t.refuses("-1;", "p 8", Books::rich, x -> x.copy(8, 0, 0, 0, 1), -1);
        t.refuses("-1;", "q -1", Books::rich, x -> x.copy(0, -1, 0, 0, 1), -1);
        t.refuses("-1;", "q 8", Books::rich, x -> x.copy(0, 8, 0, 0, 1), -1);
        String other = "-2 also of two SORTS (when both hold something);";
        t.refuses(other, "p holds an ORDER", Books::rich, x -> x.copy(1, 0, 0, 0, 1), -2);
        t.refuses(other, "q holds an ORDER", Books::rich, x -> x.copy(0, 1, 0, 0, 1), -2);
        t.refuses(other, "both hold an ORDER", Books::rich, x -> x.copy(1, 1, 0, 0, 1), -2);
        t.refuses(other, "two SORTS", Books::rich, x -> x.copy(0, 2, 0, 0, 1), -2);
        t.refuses(other, "two SORTS, n 0", Books::rich, x -> x.copy(0, 2, 0, 0, 0), -2);
        t.refuses(other, "one of them NOTHING: no two SORTS", Books::rich, x -> x.copy(2, 3, 0, 0, 1), -3);
        t.refuses("-3 either;", "p holds NOTHING", Books::rich, x -> x.copy(3, 0, 0, 0, 1), -3);
        t.refuses("-3 either;", "q holds NOTHING", Books::rich, x -> x.copy(0, 3, 0, 0, 1), -3);
        t.refuses("-3 either;", "both hold NOTHING", Books::rich, x -> x.copy(3, 7, 0, 0, 1), -3);
        t.refuses("-4 n;", "n -1", Books::rich, x -> x.copy(0, 4, 1, 1, -1), -4);
        t.refuses("-4 n;", "n least", Books::rich, x -> x.copy(0, 4, 1, 1, LEAST), -4);
        String beyond = "-5 i or j below 0, or an end that isn't there.";
        t.refuses(beyond, "i -1", Books::rich, x -> x.copy(0, 4, -1, 0, 1), -5);
        t.refuses(beyond, "i -1, n 0", Books::rich, x -> x.copy(0, 4, -1, 0, 0), -5);
        t.refuses(beyond, "j -1", Books::rich, x -> x.copy(0, 4, 0, -1, 1), -5);
        t.refuses(beyond, "i least", Books::rich, x -> x.copy(0, 4, LEAST, 0, 1), -5);
        t.refuses(beyond, "j least", Books::rich, x -> x.copy(0, 4, 0, LEAST, 1), -5);
        t.refuses(beyond, "one more than p has", Books::rich, x -> x.copy(0, 4, 1, 0, 3), -5);
        t.refuses(beyond, "one more than q has", Books::rich, x -> x.copy(4, 0, 0, 1, 3), -5);
        t.refuses(beyond, "n 0 behind the end of p", Books::rich, x -> x.copy(0, 4, 4, 0, 0), -5);
        t.refuses(beyond, "n 0 behind the end of q", Books::rich, x -> x.copy(4, 0, 0, 4, 0), -5);
        t.refuses(beyond, "n most: the end wraps around", Books::rich, x -> x.copy(0, 4, 1, 1, MOST), -5);
        t.refuses(beyond, "i most: the end wraps around", Books::rich, x -> x.copy(0, 4, MOST, 0, 1), -5);
        t.refuses(beyond, "j most: the end wraps around", Books::rich, x -> x.copy(0, 4, 0, MOST, 1), -5);
        t.holds(beyond, "n 0 at both ends is there", EdgeShelvesTest::twoRows, x ->
                Due.is("copy(0, 1, 4, 3, 0)", x.copy(0, 1, 4, 3, 0), 1));
    }

    private static void noElement(String edge, int s, int i) {
        Edge.promise(5).holds("0 if there is none (nothing is refused).", edge, Books::rich, x -> {
            long[] before = Books.refusals(x);
            Due.is("element(" + s + ", " + i + ")", x.element(s, i), 0);
            Due.are("refusals", Books.refusals(x), before);
        });
    }

    private static void element() {
        Edge.promise(5).holds("Element i of the ROW;", "the first and the last", Books::rich, x -> {
            Due.is("element(0, 0)", x.element(0, 0), 5);
            Due.is("element(0, 2)", x.element(0, 2), 7);
        });
        Edge.promise(5).holds("Element i of the ROW;", "a whole long", x -> {
            Books.putRow(x, 0, 3, Long.MIN_VALUE, Long.MAX_VALUE);
            Due.is("element(0, 0)", x.element(0, 0), Long.MIN_VALUE);
            Due.is("element(0, 1)", x.element(0, 1), Long.MAX_VALUE);
        });
        noElement("i -1", 0, -1);
        noElement("i least", 0, LEAST);
        noElement("i as many as there are", 0, 3);
        noElement("i most", 0, MOST);
        noElement("SHELF -1", -1, 0);
        noElement("SHELF 8", 8, 0);
        noElement("an ORDER", 1, 0);
        noElement("NOTHING", 3, 0);
    }

    private static void show() {
        Edge t = Edge.promise(6);
        String shows = "SHELF s holds one of the ORDERS, or NOTHING (o NONE): 1, 0.";
        t.holds(shows, "the first ORDER", Books::full, x -> {
            Due.is("show(0, 0)", x.show(0, 0), 1);
            Due.is("holds(0)", x.holds(0), 0);
        });
        t.holds(shows, "the last ORDER of 60", Books::full, x -> {
            Due.is("show(7, 59)", x.show(7, 59), 1);
            Due.is("holds(7)", x.holds(7), 59);
        });
        t.holds(shows, "ORDERS that are GONE or FILLED", Books::rich, x -> {
            Due.is("show(0, 4)", x.show(0, 4), 1);
            Due.is("show(0, 5)", x.show(0, 5), 1);
            Due.is("holds(0)", x.holds(0), 5);
        });
        t.holds(shows, "one ORDER in two SHELVES", Books::rich, x -> {
            Due.is("show(2, 1)", x.show(2, 1), 1);
            Due.is("holds(1)", x.holds(1), 1);
            Due.is("holds(2)", x.holds(2), 1);
        });
        t.holds(shows, "NONE, where an ORDER was", Books::rich, x -> {
            Due.is("show(1, NONE)", x.show(1, UncrossedBook.NONE), 0);
            Due.is("holds(1)", x.holds(1), -1);
        });
        t.holds(shows, "NONE, where a ROW was", Books::rich, x -> {
            Due.is("show(0, NONE)", x.show(0, UncrossedBook.NONE), 0);
            Due.is("holds(0)", x.holds(0), -1);
            Due.is("element(0, 0)", x.element(0, 0), 0);
        });
        t.holds(shows, "NONE, where NOTHING was", Books::rich, x -> {
            Due.is("show(3, NONE)", x.show(3, UncrossedBook.NONE), 0);
            Due.is("holds(3)", x.holds(3), -1);
        });
        t.holds(shows, "an ORDER, where a ROW was", Books::rich, x -> {
            Due.is("show(0, 0)", x.show(0, 0), 1);
            Due.is("holds(0)", x.holds(0), 0);
            Due.is("element(0, 0)", x.element(0, 0), 0);
            Due.is("set(0, 0, 1)", x.set(0, 0, 1), -2);
            Due.is("says(0, 1)", x.says(0, 1), 510);
        });
        t.refuses("-1.", "SHELF -1", Books::rich, x -> x.show(-1, 0), -1);
        t.refuses("-1.", "SHELF 8", Books::rich, x -> x.show(8, 0), -1);
        t.refuses("-1.", "SHELF 8 for NONE", Books::rich, x -> x.show(8, -1), -1);
        t.refuses("-1.", "ORDER as many as there are", Books::rich, x -> x.show(0, 6), -1);
        t.refuses("-1.", "ORDER -2", Books::rich, x -> x.show(0, -2), -1);
        t.refuses("-1.", "ORDER 60", Books::full, x -> x.show(0, 60), -1);
        t.refuses("-1.", "ORDER most", Books::rich, x -> x.show(1, MOST), -1);
        t.refuses("-1.", "ORDER least", Books::rich, x -> x.show(1, LEAST), -1);
    }

    private static void holds() {
        Edge t = Edge.promise(7);
        String none = "What SHELF s holds: NONE NOTHING, or no such SHELF;";
        t.answers(none, "NOTHING", Books::rich, x -> x.holds(3), -1);
        t.answers(none, "SHELF -1", Books::rich, x -> x.holds(-1), -1);
        t.answers(none, "SHELF 8", Books::rich, x -> x.holds(8), -1);
        t.answers(none, "SHELF least", Books::rich, x -> x.holds(LEAST), -1);
        t.answers(none, "SHELF most", Books::rich, x -> x.holds(MOST), -1);
        t.holds(none, "nothing is refused", x -> {
            x.holds(-1);
            x.holds(8);
            Due.are("refusals", Books.refusals(x), 0, 0, 0, 0, 0, 0, 0);
        });
        t.holds("an ORDER's number;", "0 and 59", Books::full, x -> {
            x.show(0, 0);
            x.show(7, 59);
            Due.is("holds(0)", x.holds(0), 0);
            Due.is("holds(7)", x.holds(7), 59);
        });
        t.holds("100 and the SORT of a ROW.", "SORTS 0 to 3, of no elements", x -> {
            for (int sort = 0; sort < 4; sort++) {
                x.row(sort, sort, 0);
                Due.is("holds(" + sort + ")", x.holds(sort), 100 + sort);
            }
        });
    }

    private static void says() {
        Edge t = Edge.promise(8);
        String left = "What the ORDER in SHELF s, taken for one of a KIND, says: ORDER LEFT;";
        t.holds(left, "of each KIND", EdgeShelvesTest::shown, x -> {
            Due.is("says(0, 0)", x.says(0, 0), 5);
            Due.is("says(1, 0)", x.says(1, 0), 17);
            Due.is("says(2, 0)", x.says(2, 0), 7);
            Due.is("says(3, 0)", x.says(3, 0), 8);
        });
        t.holds(left, "of one GONE what it had, of one FILLED 0", EdgeShelvesTest::shown, x -> {
            Due.is("says(4, 0)", x.says(4, 0), 3);
            Due.is("says(5, 0)", x.says(5, 0), 0);
        });
        t.holds("LIMIT its PRICE;", "of one RESTING, GONE, FILLED", EdgeShelvesTest::shown, x -> {
            Due.is("says(0, 1)", x.says(0, 1), 510);
            Due.is("says(4, 1)", x.says(4, 1), 480);
            Due.is("says(5, 1)", x.says(5, 1), 490);
        });
        t.holds("LIMIT its PRICE;", "of a HIDDEN one, taken for a LIMIT one", EdgeShelvesTest::shown, x ->
                Due.is("says(1, 1)", x.says(1, 1), 490));
        t.holds("LIMIT its PRICE;", "1 and 999", x -> {
            x.limit(0, 0, 1, 1, 0);
            x.limit(0, 1, 1, 999, 0);
            x.show(0, 0);
            x.show(1, 1);
            Due.is("says(0, 1)", x.says(0, 1), 1);
            Due.is("says(1, 1)", x.says(1, 1), 999);
        });
        t.holds("STOP its TRIGGER.", "of one that WAITS, and of one that is GONE", EdgeShelvesTest::shown, x -> {
            Due.is("says(3, 4)", x.says(3, 4), 600);
            x.cancel(3);
            Due.is("says(3, 4), GONE", x.says(3, 4), 600);
        });
        t.holds("STOP its TRIGGER.", "not the PRICE at which it traded", Books::opened, x -> {
            x.limit(0, 1, 2, 510, 0);
            x.halt(1, 0, 1, 505);
            x.market(2, 0, 1);
            x.show(0, 1);
            Due.is("orderOf(1, 4)", x.orderOf(1, 4), Books.FILLED);
            Due.is("says(0, 4)", x.says(0, 4), 505);
        });
    }

    /** rich(), with ORDERS 0 to 5 in the SHELVES of these numbers, a ROW in 6. */
    private static UncrossedBook shown() {
        UncrossedBook x = Books.rich();
        for (int o = 0; o < 6; o++) {
            x.show(o, o);
        }
        return x;
    }

    private static void saysOfHidden() {
        Edge t = Edge.promise(8);
        t.holds("HIDDEN what is VISIBLE;", "some of its SHOW was traded", EdgeShelvesTest::shown, x ->
                Due.is("says(1, 2)", x.says(1, 2), 3));
        t.holds("HIDDEN what is VISIBLE;", "SHOW above LEFT", x -> {
            x.hidden(0, 0, 4, 500, 999);
            x.show(0, 0);
            Due.is("says(0, 2)", x.says(0, 2), 4);
        });
        t.holds("HIDDEN what is VISIBLE;", "nothing of one that is GONE or FILLED", EdgeShelvesTest::shown, x -> {
            x.cancel(1);
            Due.is("says(1, 2), GONE", x.says(1, 2), 0);
            x.hidden(1, 0, 2, 495, 9);
            x.market(2, 1, 2);
            x.show(1, 6);
            Due.is("orderOf(6, 4)", x.orderOf(6, 4), Books.FILLED);
            Due.is("says(1, 2), FILLED", x.says(1, 2), 0);
        });
    }

    private static void saysOfPegged() {
        Edge t = Edge.promise(8);
        String pegged = "PEGGED its PRICE (0: it has none, or doesn't REST);";
        t.holds(pegged, "it has one", EdgeShelvesTest::shown, x -> Due.is("says(2, 3)", x.says(2, 3), 489));
        t.holds(pegged, "nothing to follow", x -> {
            x.pegged(0, 0, 5, 0);
            x.show(0, 0);
            Due.is("says(0, 3)", x.says(0, 3), 0);
        });
        t.holds(pegged, "1, and not 0, may be one", x -> {
            x.limit(0, 0, 5, 10, 0);
            x.pegged(0, 0, 5, 9);
            x.pegged(0, 0, 5, 10);
            x.show(0, 1);
            x.show(1, 2);
            Due.is("says(0, 3)", x.says(0, 3), 1);
            Due.is("says(1, 3)", x.says(1, 3), 0);
        });
        t.holds(pegged, "it is GONE, with one to follow there", EdgeShelvesTest::shown, x -> {
            x.cancel(2);
            Due.is("says(2, 3)", x.says(2, 3), 0);
        });
    }

    private static void saysRefusals() {
        Edge t = Edge.promise(8);
        t.refuses("-1 SHELF, KIND;", "SHELF -1", EdgeShelvesTest::shown, x -> x.says(-1, 0), -1);
        t.refuses("-1 SHELF, KIND;", "SHELF 8", EdgeShelvesTest::shown, x -> x.says(8, 0), -1);
        t.refuses("-1 SHELF, KIND;", "KIND -1", EdgeShelvesTest::shown, x -> x.says(0, -1), -1);
        t.refuses("-1 SHELF, KIND;", "KIND 5", EdgeShelvesTest::shown, x -> x.says(0, 5), -1);
        String other = "-2 also one of another KIND;";
        t.refuses(other, "a ROW", EdgeShelvesTest::shown, x -> x.says(6, 0), -2);
        // LIMIT, HIDDEN, PEGGED, STOP in SHELVES 0 to 3: what each may be taken for.
        int[][] kinds = {{0, 1}, {0, 1, 2}, {0, 3}, {0, 4}};
        for (int s = 0; s < kinds.length; s++) {
            for (int kind = 0; kind <= 4; kind++) {
                int shelf = s;
                int wanted = kind;
                String edge = "one of KIND " + (s + 1) + " taken for KIND " + kind;
                if (java.util.Arrays.binarySearch(kinds[s], kind) < 0) {
                    t.refuses(other, edge, EdgeShelvesTest::shown, x -> x.says(shelf, wanted), -2);
                } else {
                    t.holds(other, edge + " is none", EdgeShelvesTest::shown, x -> {
                        x.says(shelf, wanted);
                        Due.is("status(12)", x.status(12), 0);
                    });
                }
            }
        }
        t.refuses("-3.", "NOTHING", EdgeShelvesTest::shown, x -> x.says(7, 0), -3);
        t.refuses("-3.", "NOTHING, for any KIND", EdgeShelvesTest::shown, x -> x.says(7, 4), -3);
    }
}
