import java.util.List;

/** Edges of promises 32 to 36: draws, seed, image, restore, status. */
public final class EdgeWholeTest {
    private static final int LEAST = Integer.MIN_VALUE;
    private static final int MOST = Integer.MAX_VALUE;

    private EdgeWholeTest() {
    }

    public static void main(String[] args) {
        add();
        Edge.run();
    }

    static void add() {
        draws();
        drawsRoom();
        seed();
        image();
        imageLeaves();
        restore();
        restoreShelves();
        status();
        statusOfRefusals();
    }

    private static void draws() {
        Edge t = Edge.promise(32);
        t.holds("DRAWS, n (1 to 20): how many came.", "1", x -> {
            Due.is("draws(1)", x.draws(1), 1);
            Due.is("status(0)", x.status(0), 1);
        });
        t.holds("DRAWS, n (1 to 20): how many came.", "20", x -> {
            Due.is("draws(20)", x.draws(20), 20);
            Due.is("status(0)", x.status(0), 20);
        });
        t.holds("DRAWS, n (1 to 20): how many came.", "those that were FILLED when they came too", Books::opened, x -> {
            x.limit(0, 0, 999, 999, 0);
            x.limit(1, 1, 999, 1, 0);
            Due.is("draws(20)", x.draws(20), 20);
            Due.is("status(0)", x.status(0), 22);
        });
        t.refuses("-6.", "0", Books::rich, x -> x.draws(0), -6);
        t.refuses("-6.", "-1", Books::rich, x -> x.draws(-1), -6);
        t.refuses("-6.", "21", Books::rich, x -> x.draws(21), -6);
        t.refuses("-6.", "least", Books::rich, x -> x.draws(LEAST), -6);
        t.refuses("-6.", "most", Books::rich, x -> x.draws(MOST), -6);
        t.refuses("-6.", "21, where there is no room either", Books::full, x -> x.draws(21), -6);
    }

    private static void drawsRoom() {
        Edge t = Edge.promise(32);
        t.holds("DRAWS, n (1 to 20): how many came.", "room for 1 less", () -> Books.withOrders(41), x -> {
            Due.is("draws(20)", x.draws(20), 19);
            Due.is("status(0)", x.status(0), 60);
        });
        t.holds("DRAWS, n (1 to 20): how many came.", "just room for all", () -> Books.withOrders(40), x -> {
            Due.is("draws(20)", x.draws(20), 20);
            Due.is("status(0)", x.status(0), 60);
        });
        t.holds("DRAWS, n (1 to 20): how many came.", "no room: 0, and no refusal", Books::full, x -> {
            Due.is("draws(20)", x.draws(20), 0);
            Due.are("refusals", Books.refusals(x), 0, 0, 0, 0, 0, 0, 0);
        });
    }

    private static void seed() {
        Edge t = Edge.promise(33);
        String becomes = "SEED becomes v: what it was (nothing is refused).";
        t.holds(becomes, "1 at first, then least, -1, 0, most", x -> {
            Due.is("seed(least)", x.seed(LEAST), 1);
            Due.is("seed(-1)", x.seed(-1), LEAST);
            Due.is("seed(0)", x.seed(0), -1);
            Due.is("seed(most)", x.seed(MOST), 0);
            Due.is("status(6)", x.status(6), MOST);
            Due.are("refusals", Books.refusals(x), 0, 0, 0, 0, 0, 0, 0);
        });
        t.holds(becomes, "in the AUCTION and OPEN", x -> {
            x.seed(5);
            x.uncross();
            Due.is("seed(6)", x.seed(6), 5);
        });
    }

    private static void image() {
        Edge t = Edge.promise(34);
        String taken = "is taken: how many ORDERS.";
        t.answers(taken, "none", UncrossedBook::new, x -> x.image(), 0);
        t.answers(taken, "60", Books::full, x -> x.image(), 60);
        t.answers(taken, "those GONE and FILLED too", Books::rich, x -> x.image(), 6);
        t.holds(taken, "a later one takes its place", x -> {
            x.image();
            x.limit(0, 0, 5, 500, 0);
            Due.is("image()", x.image(), 1);
            x.limit(0, 0, 5, 500, 0);
            Due.is("restore()", x.restore(), 1);
        });
        t.holds(taken, "nothing changes by that", Books::rich, x -> {
            List<String> before = Snapshot.of(x);
            x.image();
            Due.is(Snapshot.difference(before, Snapshot.of(x)), before.equals(Snapshot.of(x)) ? 1 : 0, 1);
        });
        t.holds(taken, "what is changed then doesn't change it", Books::rich, x -> {
            x.image();
            x.amend(0, 4, 511);
            x.cancel(1);
            x.restore();
            Due.are("ORDER 0", Books.order(x, 0), 5, Books.RESTING, 510, 5, 0);
            Due.are("ORDER 1", Books.order(x, 1), 17, Books.RESTING, 490, 3, 3);
        });
    }

    private static void imageLeaves() {
        Edge t = Edge.promise(34);
        String but = "THE IMAGE of all but SHELVES (and THE IMAGE, REFUSALS, the FAULT)";
        t.holds(but, "a ROW is as it was put last", Books::rich, x -> {
            x.image();
            x.set(0, 0, 99);
            x.row(2, 3, 2);
            x.row(3, 0, 1);
            x.restore();
            Due.is("element(0, 0)", x.element(0, 0), 99);
            Due.is("holds(2)", x.holds(2), 103);
            Due.is("holds(3)", x.holds(3), 100);
        });
        t.holds(but, "a SHELF holds the ORDER that it was given last", Books::rich, x -> {
            x.image();
            x.show(1, 0);
            x.show(3, 2);
            x.restore();
            Due.is("holds(1)", x.holds(1), 0);
            Due.is("holds(3)", x.holds(3), 2);
        });
        t.holds(but, "THE IMAGE may be restored again", Books::rich, x -> {
            x.image();
            x.restore();
            x.cancel(0);
            Due.is("restore()", x.restore(), 6);
            Due.is("orderOf(0, 4)", x.orderOf(0, 4), Books.RESTING);
        });
        t.holds(but, "REFUSALS go on", Books::rich, x -> {
            x.image();
            x.cancel(-1);
            x.restore();
            Due.is("status(11)", x.status(11), 1);
            x.cancel(-1);
            Due.is("status(11)", x.status(11), 2);
        });
        t.holds(but, "the FAULT stays", Books::rich, x -> {
            x.image();
            Books.write(x, 0, 0, "x");
            x.read(0);
            x.restore();
            Due.is("fault()", x.fault(), 0);
        });
    }

    private static void restore() {
        Edge t = Edge.promise(35);
        String all = "All is as THE IMAGE has it;";
        t.holds(all, "each of its parts", Books::rich, x -> {
            List<String> before = Snapshot.of(x);
            x.image();
            x.amend(0, 9, 490);
            x.draws(2);
            x.close();
            x.rule(3);
            x.cancel(3);
            x.restore();
            Due.is(Snapshot.difference(before, Snapshot.of(x)), before.equals(Snapshot.of(x)) ? 1 : 0, 1);
        });
        t.holds(all, "an IMAGE without ORDERS", x -> {
            x.image();
            x.limit(0, 0, 5, 500, 0);
            x.uncross();
            Due.is("restore()", x.restore(), 0);
            Due.is("status(0)", x.status(0), 0);
            Due.is("status(3)", x.status(3), 0);
            Due.is("the next number", x.limit(0, 0, 5, 500, 0), 0);
        });
        t.holds(all, "an IMAGE of 60, of which one came to trade since", Books::full, x -> {
            x.image();
            x.market(3, 0, 5);
            Due.is("restore()", x.restore(), 60);
            Due.are("ORDER 59", Books.order(x, 59), 5, Books.RESTING, 600, 5, 0);
            Due.is("trades()", x.trades(), 0);
        });
        t.holds(all, "TIMES: those of one PRICE are in their old RANK", x -> {
            x.limit(0, 0, 5, 500, 0);
            x.limit(0, 0, 5, 500, 0);
            x.image();
            x.amend(0, 6, 500);
            Due.are("amended", Books.line(x, 0), 1, 0);
            x.restore();
            Due.are("restored", Books.line(x, 0), 0, 1);
            x.limit(0, 0, 5, 500, 0);
            Due.are("one more", Books.line(x, 0), 0, 1, 2);
        });
        t.holds(all, "how many TRADES, and LAST 0", Books::opened, x -> {
            x.image();
            x.limit(0, 0, 5, 500, 0);
            x.market(1, 1, 5);
            x.restore();
            Due.is("trades()", x.trades(), 0);
            Due.is("trade(0, 0)", x.trade(0, 0), -5);
            Due.is("status(5)", x.status(5), 0);
            Due.is("position(0)", x.position(0), 1000000);
            Due.is("cash(0)", x.cash(0), 1000000000);
        });
        t.holds(all, "what came since is neither in the RANK nor trades", Books::opened, x -> {
            x.image();
            x.limit(0, 0, 5, 500, 0);
            x.halt(0, 0, 5, 500);
            x.restore();
            Due.is("rank(0, 0)", x.rank(0, 0), -1);
            Due.is("depth(0, 0, 0)", x.depth(0, 0, 0), -1);
            Due.is("sweep(1, 1)", x.sweep(1, 1), -1);
            Due.is("market(1, 1, 5)", x.market(1, 1, 5), 0);
            Due.is("status(1)", x.status(1), 0);
            Due.is("status(2)", x.status(2), 0);
            Due.is("cancel(0)", x.cancel(0), -1);
            x.close();
            x.limit(1, 1, 5, 500, 0);
            Due.is("crossing(1)", x.crossing(1), 0);
        });
        t.holds(all, "an ORDER's earlier use of a number is forgotten", x -> {
            x.image();
            x.hidden(7, 1, 50, 500, 9);
            x.restore();
            x.limit(0, 0, 5, 400, 0);
            Due.is("orderOf(0, 0)", x.orderOf(0, 0), 1);
            Due.are("ORDER 0", Books.order(x, 0), 5, Books.RESTING, 400, 5, 0);
        });
        t.refuses("-6 there is none.", "none was taken", Books::rich, x -> x.restore(), -6);
        t.answers("-6 there is none.", "one was taken, of nothing", () -> {
            UncrossedBook x = new UncrossedBook();
            x.image();
            return x;
        }, x -> x.restore(), 0);
    }

    private static void restoreShelves() {
        Edge t = Edge.promise(35);
        String hold = "SHELVES with ORDERS hold those of these numbers, or NOTHING: how many ORDERS.";
        t.holds(hold, "the last number of THE IMAGE, and the first behind it", Books::rich, x -> {
            x.image();
            x.limit(0, 0, 5, 400, 0);
            x.show(0, 5);
            x.show(7, 6);
            Due.is("restore()", x.restore(), 6);
            Due.is("holds(0)", x.holds(0), 5);
            Due.is("holds(7)", x.holds(7), -1);
            Due.is("says(7, 0)", x.says(7, 0), -3);
        });
        t.holds(hold, "it says what THE IMAGE has of that number", Books::rich, x -> {
            x.image();
            x.cancel(1);
            Due.is("says(1, 2)", x.says(1, 2), 0);
            x.restore();
            Due.is("says(1, 2), restored", x.says(1, 2), 3);
        });
        t.holds(hold, "NOTHING stays NOTHING, when a number comes again", Books::rich, x -> {
            x.image();
            x.limit(0, 0, 5, 400, 0);
            x.show(7, 6);
            x.restore();
            x.limit(0, 0, 5, 400, 0);
            Due.is("holds(7)", x.holds(7), -1);
        });
        t.holds(hold, "all eight SHELVES", x -> {
            x.image();
            x.limit(0, 0, 5, 400, 0);
            for (int s = 0; s < 8; s++) {
                x.show(s, 0);
            }
            Due.is("restore()", x.restore(), 0);
            for (int s = 0; s < 8; s++) {
                Due.is("holds(" + s + ")", x.holds(s), -1);
            }
        });
    }

    private static void status() {
        Edge t = Edge.promise(36);
        String many = "How many: 0 ORDERS, 1 RESTING, 2 WAITING, 3 PHASE, 4 RULE, 5 LAST, 6 SEED;";
        t.holds(many, "of a new object", x -> {
            for (int what = 0; what < 6; what++) {
                Due.is("status(" + what + ")", x.status(what), 0);
            }
            Due.is("status(6)", x.status(6), 1);
        });
        t.holds(many, "all KINDS and STATES", Books::rich, x -> {
            int[] due = {6, 3, 1, 1, 1, 490, 77};
            for (int what = 0; what < 7; what++) {
                Due.is("status(" + what + ")", x.status(what), due[what]);
            }
        });
        t.holds(many, "60 ORDERS REST", x -> {
            for (int i = 0; i < 60; i++) {
                x.pegged(0, 0, 1, 0);
            }
            Due.is("status(0)", x.status(0), 60);
            Due.is("status(1)", x.status(1), 60);
            Due.is("status(2)", x.status(2), 0);
        });
        t.holds(many, "60 ORDERS WAIT", x -> {
            for (int i = 0; i < 60; i++) {
                x.halt(0, 0, 1, 1);
            }
            Due.is("status(0)", x.status(0), 60);
            Due.is("status(1)", x.status(1), 0);
            Due.is("status(2)", x.status(2), 60);
        });
        t.holds(many, "LAST 1 and 999", Books::opened, x -> {
            x.limit(0, 1, 1, 999, 0);
            x.market(1, 0, 1);
            Due.is("status(5)", x.status(5), 999);
            x.limit(0, 1, 1, 1, 0);
            x.market(1, 0, 1);
            Due.is("status(5)", x.status(5), 1);
        });
        int[] others = {-1, 7, 8, 9, 10, 18, 19, LEAST, MOST};
        for (int other : others) {
            t.holds("NONE for another what.", "" + other, Books::rich, x -> {
                long[] before = Books.refusals(x);
                Due.is("status(" + other + ")", x.status(other), -1);
                Due.are("refusals", Books.refusals(x), before);
            });
        }
    }

    private static void statusOfRefusals() {
        Edge t = Edge.promise(36);
        String many = "11 to 17: REFUSALS -1 to -7.";
        t.holds(many, "none yet", x -> Due.are("refusals", Books.refusals(x), 0, 0, 0, 0, 0, 0, 0));
        t.holds(many, "each by its own number", Books::full, x -> {
            x.show(0, 58);
            x.row(1, 0, 1);
            for (int times = 1; times <= 7; times++) {
                refuse(x, times);
            }
            Due.are("refusals", Books.refusals(x), 1, 2, 3, 4, 5, 6, 7);
        });
        t.holds(many, "-11 to -15 count as -1 to -5", Books::full, x -> {
            x.show(0, 58);
            x.row(1, 0, 3);
            Due.is("-11", x.judge(8, 0), -11);
            Due.is("-12", x.judge(0, 0), -12);
            Due.is("-13", x.judge(2, 0), -13);
            Due.is("-14", x.judge(1, -1), -14);
            Due.is("-15", x.judge(1, 1), -15);
            Due.is("-16", x.sweep(0, 0), -16);
            Due.are("refusals", Books.refusals(x), 1, 1, 1, 1, 1, 1, 0);
        });
    }

    /** A call refused by -reason, as many times. */
    private static void refuse(UncrossedBook x, int reason) {
        for (int i = 0; i < reason; i++) {
            int answer = switch (reason) {
                case 1 -> x.cancel(60);
                case 2 -> x.set(0, 0, 0);
                case 3 -> x.read(2);
                case 4 -> x.row(1, 0, -1);
                case 5 -> x.trade(0, 0);
                case 6 -> x.rule(4);
                default -> x.halt(0, 0, 1, 1);
            };
            Due.is("the refused call", answer, -reason);
        }
    }
}
