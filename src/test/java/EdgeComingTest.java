/** Edges of promises 9 to 15: orders that come, and texts. */
public final class EdgeComingTest {
    private static final int LEAST = Integer.MIN_VALUE;
    private static final int MOST = Integer.MAX_VALUE;
    private static final String COMERS = "-1 OWNER, SIDE;";

    private EdgeComingTest() {
    }

    public static void main(String[] args) {
        add();
        Edge.run();
    }

    static void add() {
        limit();
        limitRefusals();
        hidden();
        hiddenRefusals();
        pegged();
        peggedRefusals();
        halt();
        haltRefusals();
        market();
        marketRefusals();
        read();
        readRefusals();
        readFaults();
        readRoom();
        fault();
        faultStays();
    }

    private static void limit() {
        Edge t = Edge.promise(9);
        String comes = "A LIMIT one comes (how 0), a NOW one (1), an ALL one (2): its number.";
        t.holds(comes, "the first is 0, the last is 59", () -> Books.withOrders(0), x -> {
            Due.is("the first", x.limit(0, 0, 1, 1, 0), 0);
            for (int o = 1; o < 59; o++) {
                x.limit(0, 0, 1, 1, 1);
            }
            Due.is("the last", x.limit(0, 0, 1, 1, 0), 59);
        });
        t.holds(comes, "how 0, with nothing to trade with, RESTS", Books::opened, x -> {
            Due.is("its number", x.limit(0, 0, 5, 500, 0), 0);
            Due.are("the ORDER", Books.order(x, 0), 5, Books.RESTING, 500, 5, 0);
        });
        t.holds(comes, "how 1, with nothing to trade with, is GONE", Books::opened, x -> {
            Due.is("its number", x.limit(0, 0, 5, 500, 1), 0);
            Due.are("the ORDER", Books.order(x, 0), 5, Books.GONE, 500, 0, 0);
        });
        t.holds(comes, "how 2, with less than all to trade with, trades nothing", Books::opened, x -> {
            x.limit(1, 1, 4, 500, 0);
            Due.is("its number", x.limit(0, 0, 5, 500, 2), 1);
            Due.are("the ORDER", Books.order(x, 1), 5, Books.GONE, 500, 0, 0);
            Due.is("trades()", x.trades(), 0);
        });
        t.holds(comes, "how 1, with less than all to trade with, trades that", Books::opened, x -> {
            x.limit(1, 1, 4, 500, 0);
            Due.is("its number", x.limit(0, 0, 5, 500, 1), 1);
            Due.are("the ORDER", Books.order(x, 1), 1, Books.GONE, 500, 0, 4);
        });
        t.holds(comes, "its number, though it is GONE or FILLED when it is told", Books::opened, x -> {
            Due.is("GONE", x.limit(0, 0, 5, 500, 1), 0);
            Due.is("RESTING", x.limit(0, 1, 5, 500, 0), 1);
            Due.is("FILLED", x.limit(0, 0, 5, 500, 0), 2);
        });
        t.holds(comes, "OWNERS 0 and 7, SIDES 0 and 1, QUANTITIES and PRICES 1 and 999", x -> {
            Due.is("the least of all", x.limit(0, 0, 1, 1, 0), 0);
            Due.is("the most of all", x.limit(7, 1, 999, 999, 2), 1);
            Due.are("the least", Books.order(x, 0), 1, Books.RESTING, 1, 1, 0);
            Due.is("owner of the most", x.orderOf(1, 1), 7);
        });
    }

    private static void limitRefusals() {
        Edge t = Edge.promise(9);
        t.refuses(COMERS, "OWNER -1", Books::rich, x -> x.limit(-1, 0, 1, 1, 0), -1);
        t.refuses(COMERS, "OWNER 8", Books::rich, x -> x.limit(8, 0, 1, 1, 0), -1);
        t.refuses(COMERS, "SIDE -1", Books::rich, x -> x.limit(0, -1, 1, 1, 0), -1);
        t.refuses(COMERS, "SIDE 2", Books::rich, x -> x.limit(0, 2, 1, 1, 0), -1);
        t.refuses("-6;", "QUANTITY 0", Books::rich, x -> x.limit(0, 0, 0, 1, 0), -6);
        t.refuses("-6;", "QUANTITY 1000", Books::rich, x -> x.limit(0, 0, 1000, 1, 0), -6);
        t.refuses("-6;", "QUANTITY least", Books::rich, x -> x.limit(0, 0, LEAST, 1, 0), -6);
        t.refuses("-6;", "PRICE 0", Books::rich, x -> x.limit(0, 0, 1, 0, 0), -6);
        t.refuses("-6;", "PRICE 1000", Books::rich, x -> x.limit(0, 0, 1, 1000, 0), -6);
        t.refuses("-6;", "PRICE most", Books::rich, x -> x.limit(0, 0, 1, MOST, 0), -6);
        t.refuses("-6;", "how -1", Books::rich, x -> x.limit(0, 0, 1, 1, -1), -6);
        t.refuses("-6;", "how 3", Books::rich, x -> x.limit(0, 0, 1, 1, 3), -6);
        t.refuses("-7.", "a 61st", Books::full, x -> x.limit(0, 0, 1, 1, 0), -7);
        t.refuses("-7.", "a 61st, that would trade and never REST", Books::full, x -> x.limit(0, 0, 1, 600, 1), -7);
        t.refuses("-7.", "a 61st, that would be GONE at once", Books::full, x -> x.limit(0, 0, 9, 1, 2), -7);
    }

    private static void hidden() {
        Edge t = Edge.promise(10);
        String comes = "A HIDDEN one comes: its number.";
        t.holds(comes, "the least of all, the most of all", x -> {
            Due.is("the least", x.hidden(0, 0, 1, 1, 1), 0);
            Due.is("the most", x.hidden(7, 1, 999, 999, 999), 1);
            Due.are("the least", Books.order(x, 0), 1, Books.RESTING, 1, 1, 0);
            Due.are("the most", Books.order(x, 1), 999, Books.RESTING, 999, 999, 0);
            Due.is("its KIND", x.orderOf(0, 0), 2);
        });
        t.holds(comes, "FILLED when it comes: nothing is VISIBLE", Books::opened, x -> {
            x.limit(1, 1, 9, 500, 0);
            Due.is("its number", x.hidden(0, 0, 9, 500, 2), 1);
            Due.are("the ORDER", Books.order(x, 1), 0, Books.FILLED, 500, 0, 9);
        });
        t.holds(comes, "the 60th", () -> Books.withOrders(59), x ->
                Due.is("its number", x.hidden(0, 0, 1, 1, 1), 59));
    }

    private static void hiddenRefusals() {
        Edge t = Edge.promise(10);
        t.refuses("-1;", "OWNER -1", Books::rich, x -> x.hidden(-1, 0, 1, 1, 1), -1);
        t.refuses("-1;", "OWNER 8", Books::rich, x -> x.hidden(8, 0, 1, 1, 1), -1);
        t.refuses("-1;", "SIDE -1", Books::rich, x -> x.hidden(0, -1, 1, 1, 1), -1);
        t.refuses("-1;", "SIDE 2", Books::rich, x -> x.hidden(0, 2, 1, 1, 1), -1);
        t.refuses("-6;", "QUANTITY 0", Books::rich, x -> x.hidden(0, 0, 0, 1, 1), -6);
        t.refuses("-6;", "QUANTITY 1000", Books::rich, x -> x.hidden(0, 0, 1000, 1, 1), -6);
        t.refuses("-6;", "PRICE 0", Books::rich, x -> x.hidden(0, 0, 1, 0, 1), -6);
        t.refuses("-6;", "PRICE 1000", Books::rich, x -> x.hidden(0, 0, 1, 1000, 1), -6);
        t.refuses("-6;", "SHOW 0", Books::rich, x -> x.hidden(0, 0, 1, 1, 0), -6);
        t.refuses("-6;", "SHOW 1000", Books::rich, x -> x.hidden(0, 0, 1, 1, 1000), -6);
        t.refuses("-6;", "SHOW least", Books::rich, x -> x.hidden(0, 0, 1, 1, LEAST), -6);
        t.refuses("-7.", "a 61st", Books::full, x -> x.hidden(0, 0, 1, 1, 1), -7);
    }

    private static void pegged() {
        Edge t = Edge.promise(11);
        String comes = "A PEGGED one comes: its number.";
        t.holds(comes, "the least of all, the most of all", x -> {
            Due.is("the least", x.pegged(0, 0, 1, 0), 0);
            Due.is("the most", x.pegged(7, 1, 999, 99), 1);
            Due.is("its KIND", x.orderOf(1, 0), 3);
            Due.is("what is LEFT of it", x.orderOf(1, 3), 999);
        });
        t.holds(comes, "RESTS, though it has no PRICE", Books::opened, x -> {
            Due.is("its number", x.pegged(0, 0, 5, 0), 0);
            Due.are("the ORDER", Books.order(x, 0), 5, Books.RESTING, 0, 5, 0);
        });
        t.holds(comes, "the 60th", () -> Books.withOrders(59), x ->
                Due.is("its number", x.pegged(0, 0, 1, 0), 59));
    }

    private static void peggedRefusals() {
        Edge t = Edge.promise(11);
        t.refuses("-1;", "OWNER -1", Books::rich, x -> x.pegged(-1, 0, 1, 1), -1);
        t.refuses("-1;", "OWNER 8", Books::rich, x -> x.pegged(8, 0, 1, 1), -1);
        t.refuses("-1;", "SIDE -1", Books::rich, x -> x.pegged(0, -1, 1, 1), -1);
        t.refuses("-1;", "SIDE 2", Books::rich, x -> x.pegged(0, 2, 1, 1), -1);
        t.refuses("-6;", "QUANTITY 0", Books::rich, x -> x.pegged(0, 0, 0, 1), -6);
        t.refuses("-6;", "QUANTITY 1000", Books::rich, x -> x.pegged(0, 0, 1000, 1), -6);
        t.refuses("-6;", "OFFSET -1", Books::rich, x -> x.pegged(0, 0, 1, -1), -6);
        t.refuses("-6;", "OFFSET 100", Books::rich, x -> x.pegged(0, 0, 1, 100), -6);
        t.refuses("-6;", "OFFSET least", Books::rich, x -> x.pegged(0, 0, 1, LEAST), -6);
        t.refuses("-7.", "a 61st", Books::full, x -> x.pegged(0, 0, 1, 1), -7);
    }

    private static void halt() {
        Edge t = Edge.promise(12);
        String comes = "A STOP comes: its number.";
        t.holds(comes, "the least of all, the most of all", x -> {
            Due.is("the least", x.halt(0, 0, 1, 1), 0);
            Due.is("the most", x.halt(7, 1, 999, 999), 1);
            Due.are("the most", Books.order(x, 1), 999, Books.WAITING, 999, 0, 0);
            Due.is("its KIND", x.orderOf(1, 0), 4);
        });
        t.holds(comes, "REACHED when it comes: it GOES IN at once", () -> Books.openedAt(500), x -> {
            x.limit(0, 1, 3, 510, 0);
            int stop = x.halt(1, 0, 2, 500);
            Due.is("its number", stop, 2);
            Due.are("the ORDER", Books.order(x, stop), 0, Books.FILLED, 500, 0, 2);
        });
        t.holds(comes, "the 60th", () -> Books.withOrders(59), x ->
                Due.is("its number", x.halt(0, 0, 1, 1), 59));
    }

    private static void haltRefusals() {
        Edge t = Edge.promise(12);
        t.refuses("-1;", "OWNER -1", Books::rich, x -> x.halt(-1, 0, 1, 1), -1);
        t.refuses("-1;", "OWNER 8", Books::rich, x -> x.halt(8, 0, 1, 1), -1);
        t.refuses("-1;", "SIDE -1", Books::rich, x -> x.halt(0, -1, 1, 1), -1);
        t.refuses("-1;", "SIDE 2", Books::rich, x -> x.halt(0, 2, 1, 1), -1);
        t.refuses("-6;", "QUANTITY 0", Books::rich, x -> x.halt(0, 0, 0, 1), -6);
        t.refuses("-6;", "QUANTITY 1000", Books::rich, x -> x.halt(0, 0, 1000, 1), -6);
        t.refuses("-6;", "TRIGGER 0", Books::rich, x -> x.halt(0, 0, 1, 0), -6);
        t.refuses("-6;", "TRIGGER 1000", Books::rich, x -> x.halt(0, 0, 1, 1000), -6);
        t.refuses("-7.", "a 61st", Books::full, x -> x.halt(0, 0, 1, 1), -7);
    }

    private static void market() {
        Edge t = Edge.promise(13);
        String comes = "A MARKET one comes: what it traded.";
        t.answers(comes, "nothing is there", Books::opened, x -> x.market(0, 0, 999), 0);
        t.holds(comes, "less than its QUANTITY is there", Books::opened, x -> {
            x.limit(0, 1, 5, 500, 0);
            x.limit(0, 1, 3, 501, 0);
            Due.is("market(1, 0, 999)", x.market(1, 0, 999), 8);
        });
        t.holds(comes, "just its QUANTITY is there", Books::opened, x -> {
            x.limit(0, 1, 5, 500, 0);
            Due.is("market(1, 0, 5)", x.market(1, 0, 5), 5);
        });
        t.holds(comes, "1 of more", Books::opened, x -> {
            x.limit(0, 0, 5, 500, 0);
            Due.is("market(1, 1, 1)", x.market(1, 1, 1), 1);
        });
        t.holds(comes, "not what was taken from both by RULE 3", Books::opened, x -> {
            x.limit(0, 1, 5, 500, 0);
            x.limit(1, 1, 3, 501, 0);
            x.rule(3);
            Due.is("market(0, 0, 7)", x.market(0, 0, 7), 2);
        });
        t.holds(comes, "not what a STOP traded that it reached", Books::opened, x -> {
            x.limit(0, 1, 5, 500, 0);
            x.halt(2, 0, 2, 500);
            Due.is("market(1, 0, 1)", x.market(1, 0, 1), 1);
            Due.is("trades()", x.trades(), 2);
        });
        t.holds(comes, "where there is no room for an ORDER", Books::full, x ->
                Due.is("market(3, 0, 5)", x.market(3, 0, 5), 5));
    }

    private static void marketRefusals() {
        Edge t = Edge.promise(13);
        t.refuses("-1;", "OWNER -1", Books::rich, x -> x.market(-1, 0, 1), -1);
        t.refuses("-1;", "OWNER 8", Books::rich, x -> x.market(8, 0, 1), -1);
        t.refuses("-1;", "SIDE -1", Books::rich, x -> x.market(0, -1, 1), -1);
        t.refuses("-1;", "SIDE 2", Books::rich, x -> x.market(0, 2, 1), -1);
        String wrong = "-6 also in the AUCTION.";
        t.refuses(wrong, "QUANTITY 0", Books::rich, x -> x.market(0, 0, 0), -6);
        t.refuses(wrong, "QUANTITY 1000", Books::rich, x -> x.market(0, 0, 1000), -6);
        t.refuses(wrong, "QUANTITY least", Books::rich, x -> x.market(0, 0, LEAST), -6);
        t.refuses(wrong, "in the AUCTION at first", UncrossedBook::new, x -> x.market(0, 0, 1), -6);
        t.refuses(wrong, "in the AUCTION after close()", Books::richAuction, x -> x.market(0, 0, 1), -6);
    }

    /** An object whose SHELF 0 holds the TEXT as bytes. */
    private static UncrossedBook withText(UncrossedBook x, String text) {
        Books.write(x, 0, 0, text);
        return x;
    }

    private static String texts(int items) {
        return "a+1@1" + ";a+1@1".repeat(items - 1);
    }

    private static void read() {
        Edge t = Edge.promise(14);
        String reads = "A TEXT by the ROW in SHELF s: how many ITEMS.";
        t.answers(reads, "1 ITEM", () -> withText(new UncrossedBook(), "a+1@1"), x -> x.read(0), 1);
        t.answers(reads, "26 ITEMS: more don't fit in a ROW", () -> withText(new UncrossedBook(), texts(26)),
                x -> x.read(0), 26);
        t.holds(reads, "each of them comes, by its numbers", () ->
                withText(new UncrossedBook(), "h-999@999h999;a+1@1"), x -> {
            Due.is("read(0)", x.read(0), 2);
            Due.are("the first", Books.order(x, 0), 999, Books.RESTING, 999, 999, 0);
            Due.is("its KIND", x.orderOf(0, 0), 2);
            Due.is("its OWNER", x.orderOf(0, 1), 7);
            Due.is("its SIDE", x.orderOf(0, 2), 1);
            Due.are("the second", Books.order(x, 1), 1, Books.RESTING, 1, 1, 0);
            Due.is("its KIND", x.orderOf(1, 0), 1);
            Due.is("its OWNER", x.orderOf(1, 1), 0);
            Due.is("its SIDE", x.orderOf(1, 2), 0);
        });
        t.holds(reads, "the same ROW again", () -> withText(new UncrossedBook(), "a+1@1"), x -> {
            Due.is("read(0)", x.read(0), 1);
            Due.is("read(0)", x.read(0), 1);
            Due.is("status(0)", x.status(0), 2);
        });
        t.answers(reads, "in SHELF 7", () -> {
            UncrossedBook x = new UncrossedBook();
            Books.write(x, 7, 3, "b-2@3");
            return x;
        }, x -> x.read(7), 1);
    }

    private static void readRefusals() {
        Edge t = Edge.promise(14);
        t.refuses("-1;", "SHELF -1", Books::rich, x -> x.read(-1), -1);
        t.refuses("-1;", "SHELF 8", Books::rich, x -> x.read(8), -1);
        t.refuses("-2;", "an ORDER", Books::rich, x -> x.read(1), -2);
        t.refuses("-3;", "NOTHING", Books::rich, x -> x.read(3), -3);
        // SHELF 6 of rich() was read before, so that the FAULT is the same.
        t.refuses("-6 a FAULT;", "in the first ITEM", Books::rich, x -> x.read(6), -6);
        t.refuses("-6 a FAULT;", "a ROW with no element", () -> {
            UncrossedBook x = withText(new UncrossedBook(), "");
            x.read(0);
            return x;
        }, x -> x.read(0), -6);
        t.holds("-6 a FAULT;", "in the last ITEM: none of the others comes", () ->
                withText(Books.opened(), "a+1@1;b-1@1;c+0@1"), x -> {
            Due.is("read(0)", x.read(0), -6);
            Due.is("status(0)", x.status(0), 0);
            Due.is("trades()", x.trades(), 0);
            Due.is("status(16)", x.status(16), 1);
        });
    }

    private static void reads(String edge, String text, long answer) {
        Edge.promise(14).answers("-6 a FAULT;", edge, () -> withText(new UncrossedBook(), text),
                x -> x.read(0), answer);
    }

    private static void readFaults() {
        reads("a ; behind the last ITEM", "a+1@1;", -6);
        reads("QUANTITY 0", "a+0@1", -6);
        reads("PRICE 0", "a+1@0", -6);
        reads("SHOW 0", "a+1@1h0", -6);
        reads("a fourth digit", "a+1000@1", -6);
        reads("999 is none", "a+999@999h999", 1);
    }

    private static void readRoom() {
        Edge t = Edge.promise(14);
        t.refuses("-7.", "one ITEM more than there is room for", () -> withText(Books.withOrders(58), texts(3)),
                x -> x.read(0), -7);
        t.refuses("-7.", "a 61st", () -> withText(Books.full(), texts(1)), x -> x.read(0), -7);
        t.answers("-7.", "just room for all is enough", () -> withText(Books.withOrders(58), texts(2)),
                x -> x.read(0), 2);
    }

    private static void fault() {
        Edge t = Edge.promise(15);
        String faults = "The FAULT of the latest read() that came to a ROW;";
        t.holds(faults, "the latest of two", () -> withText(Books.rich(), "a+1@x"), x -> {
            Due.is("fault() of SHELF 6", x.fault(), 2);
            x.read(0);
            Due.is("fault() of SHELF 0", x.fault(), 4);
        });
        t.holds(faults, "FAULT 0 is one", () -> withText(new UncrossedBook(), "x"), x -> {
            x.read(0);
            Due.is("fault()", x.fault(), 0);
        });
        t.holds(faults, "FAULT 160, behind the last of 160 elements", () ->
                withText(new UncrossedBook(), texts(25) + "h009;a+001@"), x -> {
            Due.is("holds 160", x.set(0, 159, '@'), 1);
            x.read(0);
            Due.is("fault()", x.fault(), 160);
        });
        String none = "NONE: there was none, or none yet.";
        t.answers(none, "none yet", UncrossedBook::new, x -> x.fault(), -1);
        t.holds(none, "there was none", () -> withText(Books.rich(), "a+1@1"), x -> {
            Due.is("fault() of SHELF 6", x.fault(), 2);
            x.read(0);
            Due.is("fault()", x.fault(), -1);
        });
        t.holds(none, "there was none, yet no room", () -> withText(Books.full(), "x"), x -> {
            x.read(0);
            Due.is("fault()", x.fault(), 0);
            Books.write(x, 0, 0, "a+1@1");
            Due.is("read(0)", x.read(0), -7);
            Due.is("fault()", x.fault(), -1);
        });
    }

    private static void faultStays() {
        Edge t = Edge.promise(15);
        String faults = "The FAULT of the latest read() that came to a ROW;";
        t.holds(faults, "a read() that came to no ROW changes nothing of it", Books::rich, x -> {
            x.read(-1);
            Due.is("after no such SHELF", x.fault(), 2);
            x.read(1);
            Due.is("after an ORDER", x.fault(), 2);
            x.read(3);
            Due.is("after NOTHING", x.fault(), 2);
        });
        t.holds(faults, "though the ROW is there no more", Books::rich, x -> {
            x.show(6, UncrossedBook.NONE);
            Due.is("fault()", x.fault(), 2);
        });
    }
}
