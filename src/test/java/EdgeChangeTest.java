/** Edges of promises 16 to 21: cancel, amend, rule, uncross, close, crossing. */
public final class EdgeChangeTest {
    private static final int LEAST = Integer.MIN_VALUE;
    private static final int MOST = Integer.MAX_VALUE;

    private EdgeChangeTest() {
    }

    public static void main(String[] args) {
        add();
        Edge.run();
    }

    static void add() {
        cancel();
        cancelRefusals();
        amend();
        amendTrades();
        amendRefusals();
        rule();
        uncross();
        close();
        crossing();
        crossingRefusals();
    }

    private static void cancel() {
        Edge t = Edge.promise(16);
        String gone = "A RESTING or WAITING one is GONE: what was LEFT.";
        t.holds(gone, "a LIMIT one", Books::rich, x -> {
            Due.is("cancel(0)", x.cancel(0), 5);
            Due.are("the ORDER", Books.order(x, 0), 5, Books.GONE, 510, 0, 0);
        });
        t.holds(gone, "a HIDDEN one that traded: LEFT, not what is VISIBLE", Books::rich, x -> {
            Due.is("cancel(1)", x.cancel(1), 17);
            Due.are("the ORDER", Books.order(x, 1), 17, Books.GONE, 490, 0, 3);
        });
        t.holds(gone, "a PEGGED one", Books::rich, x -> {
            Due.is("cancel(2)", x.cancel(2), 7);
            Due.are("the ORDER", Books.order(x, 2), 7, Books.GONE, 0, 0, 0);
        });
        t.holds(gone, "a PEGGED one without a PRICE", x -> {
            x.pegged(0, 0, 6, 0);
            Due.is("cancel(0)", x.cancel(0), 6);
        });
        t.holds(gone, "a STOP", Books::rich, x -> {
            Due.is("cancel(3)", x.cancel(3), 8);
            Due.are("the ORDER", Books.order(x, 3), 8, Books.GONE, 600, 0, 0);
            Due.is("status(2)", x.status(2), 0);
        });
        t.holds(gone, "a STOP that is GONE isn't REACHED any more", Books::opened, x -> {
            x.limit(0, 1, 5, 500, 0);
            x.halt(1, 0, 2, 500);
            x.cancel(1);
            x.market(2, 0, 1);
            Due.is("trades()", x.trades(), 1);
        });
        t.holds(gone, "in the AUCTION", Books::richAuction, x -> {
            Due.is("cancel(0)", x.cancel(0), 5);
            Due.is("cancel(3)", x.cancel(3), 8);
        });
        t.holds(gone, "the last of 60", Books::full, x -> Due.is("cancel(59)", x.cancel(59), 5));
        t.holds(gone, "1 was LEFT", Books::opened, x -> {
            x.limit(0, 0, 2, 500, 0);
            x.market(1, 1, 1);
            Due.is("cancel(0)", x.cancel(0), 1);
        });
        t.holds(gone, "its number is not given again", x -> {
            x.limit(0, 0, 2, 500, 0);
            x.cancel(0);
            Due.is("limit", x.limit(0, 0, 2, 500, 0), 1);
        });
    }

    private static void cancelRefusals() {
        Edge t = Edge.promise(16);
        t.refuses("-1;", "ORDER -1", Books::rich, x -> x.cancel(-1), -1);
        t.refuses("-1;", "ORDER as many as there are", Books::rich, x -> x.cancel(6), -1);
        t.refuses("-1;", "ORDER 60", Books::full, x -> x.cancel(60), -1);
        t.refuses("-1;", "ORDER least", Books::rich, x -> x.cancel(LEAST), -1);
        t.refuses("-1;", "ORDER most", Books::rich, x -> x.cancel(MOST), -1);
        t.refuses("-6 it doesn't.", "it is GONE", Books::rich, x -> x.cancel(4), -6);
        t.refuses("-6 it doesn't.", "it is FILLED", Books::rich, x -> x.cancel(5), -6);
        t.refuses("-6 it doesn't.", "it was cancelled", () -> {
            UncrossedBook x = Books.rich();
            x.cancel(0);
            return x;
        }, x -> x.cancel(0), -6);
        t.refuses("-6 it doesn't.", "a STOP that went in", () -> {
            UncrossedBook x = Books.openedAt(500);
            x.halt(0, 0, 5, 500);
            return x;
        }, x -> x.cancel(1), -6);
    }

    private static void amend() {
        Edge t = Edge.promise(17);
        String trades = "AMEND: what it traded by that.";
        t.answers(trades, "it keeps its TIME: 0", Books::rich, x -> x.amend(0, 5, 510), 0);
        t.answers(trades, "it RESTS elsewhere: 0", Books::rich, x -> x.amend(0, 9, 520), 0);
        t.answers(trades, "a STOP waits on: 0", Books::rich, x -> x.amend(3, 9, 700), 0);
        t.answers(trades, "in the AUCTION: 0", Books::richAuction, x -> x.amend(0, 5, 490), 0);
        t.holds(trades, "QUANTITIES and PRICES 1 and 999", x -> {
            x.limit(0, 0, 5, 500, 0);
            Due.is("amend(0, 1, 1)", x.amend(0, 1, 1), 0);
            Due.are("the least", Books.order(x, 0), 1, Books.RESTING, 1, 1, 0);
            Due.is("amend(0, 999, 999)", x.amend(0, 999, 999), 0);
            Due.are("the most", Books.order(x, 0), 999, Books.RESTING, 999, 999, 0);
        });
        t.holds(trades, "TRIGGERS 1 and 999 of a STOP", x -> {
            x.halt(0, 0, 5, 500);
            Due.is("amend(0, 1, 1)", x.amend(0, 1, 1), 0);
            Due.are("the least", Books.order(x, 0), 1, Books.WAITING, 1, 0, 0);
            Due.is("amend(0, 999, 999)", x.amend(0, 999, 999), 0);
            Due.are("the most", Books.order(x, 0), 999, Books.WAITING, 999, 0, 0);
        });
        t.holds(trades, "where there is no room for an ORDER", Books::full, x -> {
            Due.is("amend(58, 5, 401)", x.amend(58, 5, 401), 0);
            Due.is("status(0)", x.status(0), 60);
        });
    }

    private static void amendTrades() {
        Edge t = Edge.promise(17);
        String trades = "AMEND: what it traded by that.";
        t.holds(trades, "not what it traded before", Books::opened, x -> {
            x.limit(0, 0, 5, 500, 0);
            x.market(1, 1, 2);
            x.limit(1, 1, 3, 505, 0);
            Due.is("amend(0, 4, 505)", x.amend(0, 4, 505), 3);
            Due.is("in all", x.orderOf(0, 7), 5);
        });
        t.holds(trades, "all of it", Books::opened, x -> {
            x.limit(0, 0, 5, 500, 0);
            x.limit(1, 1, 9, 505, 0);
            Due.is("amend(0, 7, 505)", x.amend(0, 7, 505), 7);
            Due.is("STATE", x.orderOf(0, 4), Books.FILLED);
        });
        t.holds(trades, "not what was taken from both by RULE 3", Books::opened, x -> {
            x.limit(0, 0, 5, 500, 0);
            x.limit(0, 1, 3, 505, 0);
            x.rule(3);
            Due.is("amend(0, 7, 505)", x.amend(0, 7, 505), 0);
            Due.are("the ORDER", Books.order(x, 0), 4, Books.RESTING, 505, 4, 0);
        });
        t.holds(trades, "a STOP that is REACHED by it", () -> Books.openedAt(500), x -> {
            x.limit(0, 1, 3, 510, 0);
            int stop = x.halt(1, 0, 2, 501);
            Due.is("amend to 500", x.amend(stop, 5, 500), 3);
            Due.are("the STOP", Books.order(x, stop), 2, Books.GONE, 500, 0, 3);
        });
        t.holds(trades, "with a STOP that it reaches", Books::opened, x -> {
            x.limit(0, 1, 2, 505, 0);
            x.limit(1, 0, 5, 500, 0);
            x.halt(2, 1, 1, 505);
            Due.is("amend(1, 5, 505)", x.amend(1, 5, 505), 3);
        });
    }

    private static void amendRefusals() {
        Edge t = Edge.promise(17);
        t.refuses("-1;", "ORDER -1", Books::rich, x -> x.amend(-1, 1, 1), -1);
        t.refuses("-1;", "ORDER as many as there are", Books::rich, x -> x.amend(6, 1, 1), -1);
        t.refuses("-1;", "ORDER least", Books::rich, x -> x.amend(LEAST, 1, 1), -1);
        t.refuses("-1;", "ORDER most", Books::rich, x -> x.amend(MOST, 1, 1), -1);
        String wrong = "-6 QUANTITY, PRICE, it can't be AMENDED.";
        t.refuses(wrong, "QUANTITY 0", Books::rich, x -> x.amend(0, 0, 510), -6);
        t.refuses(wrong, "QUANTITY 1000", Books::rich, x -> x.amend(0, 1000, 510), -6);
        t.refuses(wrong, "QUANTITY least", Books::rich, x -> x.amend(0, LEAST, 510), -6);
        t.refuses(wrong, "PRICE 0", Books::rich, x -> x.amend(0, 5, 0), -6);
        t.refuses(wrong, "PRICE 1000", Books::rich, x -> x.amend(0, 5, 1000), -6);
        t.refuses(wrong, "QUANTITY 0 of a STOP", Books::rich, x -> x.amend(3, 0, 600), -6);
        t.refuses(wrong, "QUANTITY 1000 of a STOP", Books::rich, x -> x.amend(3, 1000, 600), -6);
        t.refuses(wrong, "TRIGGER 0 of a STOP", Books::rich, x -> x.amend(3, 5, 0), -6);
        t.refuses(wrong, "TRIGGER 1000 of a STOP", Books::rich, x -> x.amend(3, 5, 1000), -6);
        t.refuses(wrong, "a PEGGED one", Books::rich, x -> x.amend(2, 5, 489), -6);
        t.refuses(wrong, "a PEGGED one, in the AUCTION", Books::richAuction, x -> x.amend(2, 5, 489), -6);
        t.refuses(wrong, "one that is GONE", Books::rich, x -> x.amend(4, 3, 480), -6);
        t.refuses(wrong, "one that is FILLED", Books::rich, x -> x.amend(5, 1, 490), -6);
        t.refuses(wrong, "a STOP that was cancelled", () -> {
            UncrossedBook x = Books.rich();
            x.cancel(3);
            return x;
        }, x -> x.amend(3, 5, 600), -6);
        t.refuses(wrong, "a STOP that is FILLED", () -> {
            UncrossedBook x = Books.openedAt(500);
            x.limit(0, 1, 9, 510, 0);
            x.halt(1, 0, 1, 500);
            return x;
        }, x -> x.amend(2, 5, 600), -6);
    }

    private static void rule() {
        Edge t = Edge.promise(18);
        String becomes = "RULE becomes v: what it was.";
        t.holds(becomes, "0 to 3, each in turn", x -> {
            Due.is("rule(3)", x.rule(3), 0);
            Due.is("rule(2)", x.rule(2), 3);
            Due.is("rule(1)", x.rule(1), 2);
            Due.is("rule(0)", x.rule(0), 1);
            Due.is("status(4)", x.status(4), 0);
        });
        t.holds(becomes, "the same again", x -> {
            x.rule(2);
            Due.is("rule(2)", x.rule(2), 2);
        });
        t.holds(becomes, "OPEN, and in the AUCTION again", x -> {
            x.uncross();
            Due.is("rule(1), OPEN", x.rule(1), 0);
            x.close();
            Due.is("rule(2), AUCTION", x.rule(2), 1);
        });
        t.refuses("-6.", "-1", Books::rich, x -> x.rule(-1), -6);
        t.refuses("-6.", "4", Books::rich, x -> x.rule(4), -6);
        t.refuses("-6.", "least", Books::rich, x -> x.rule(LEAST), -6);
        t.refuses("-6.", "most", Books::rich, x -> x.rule(MOST), -6);
    }

    private static void uncross() {
        Edge t = Edge.promise(19);
        t.answers("UNCROSS: the VOLUME.", "no ORDERS: 0", UncrossedBook::new, x -> x.uncross(), 0);
        t.answers("UNCROSS: the VOLUME.", "nothing crosses: 0", Books::richAuction, x -> x.uncross(), 0);
        t.holds("UNCROSS: the VOLUME.", "1", x -> {
            x.limit(0, 0, 1, 1, 0);
            x.limit(1, 1, 1, 1, 0);
            Due.is("uncross()", x.uncross(), 1);
        });
        t.holds("UNCROSS: the VOLUME.", "all that 60 ORDERS can trade", x -> {
            for (int i = 0; i < 30; i++) {
                x.limit(0, 0, 999, 500, 0);
                x.limit(1, 1, 999, 500, 0);
            }
            Due.is("uncross()", x.uncross(), 30 * 999);
            Due.is("trades()", x.trades(), 30);
            Due.is("status(1)", x.status(1), 0);
        });
        t.holds("UNCROSS: the VOLUME.", "not what STOPS trade behind it", x -> {
            x.limit(0, 0, 2, 500, 0);
            x.limit(1, 1, 5, 500, 0);
            x.halt(2, 0, 3, 500);
            Due.is("uncross()", x.uncross(), 2);
            Due.is("position(1)", x.position(1), 999995);
        });
        t.refuses("-6 it is OPEN.", "it is OPEN", Books::rich, x -> x.uncross(), -6);
    }

    private static void close() {
        Edge t = Edge.promise(20);
        t.answers("To CLOSE: how many REST.", "none", Books::opened, x -> x.close(), 0);
        t.answers("To CLOSE: how many REST.", "not those that WAIT, are GONE or FILLED", Books::rich,
                x -> x.close(), 3);
        t.holds("To CLOSE: how many REST.", "60", x -> {
            for (int i = 0; i < 60; i++) {
                x.limit(0, 0, 1, 1, 0);
            }
            x.uncross();
            Due.is("close()", x.close(), 60);
        });
        t.holds("To CLOSE: how many REST.", "a PEGGED one without a PRICE RESTS too", Books::opened, x -> {
            x.pegged(0, 0, 1, 1);
            Due.is("close()", x.close(), 1);
        });
        t.refuses("-6 it is the AUCTION.", "at first", UncrossedBook::new, x -> x.close(), -6);
        t.refuses("-6 it is the AUCTION.", "again", Books::richAuction, x -> x.close(), -6);
    }

    private static void crossing() {
        Edge t = Edge.promise(21);
        String come = "What UNCROSS would come to: PRICE (what 0; 0, if the VOLUME is 0), VOLUME (1).";
        t.holds(come, "no ORDERS", x -> {
            Due.is("crossing(0)", x.crossing(0), 0);
            Due.is("crossing(1)", x.crossing(1), 0);
        });
        t.holds(come, "BUYS alone", x -> {
            x.limit(0, 0, 5, 999, 0);
            Due.is("crossing(0)", x.crossing(0), 0);
            Due.is("crossing(1)", x.crossing(1), 0);
        });
        t.holds(come, "SELLS alone", x -> {
            x.limit(0, 1, 5, 1, 0);
            Due.is("crossing(0)", x.crossing(0), 0);
            Due.is("crossing(1)", x.crossing(1), 0);
        });
        t.holds(come, "1 below what would trade", x -> {
            x.limit(0, 0, 5, 499, 0);
            x.limit(0, 1, 5, 500, 0);
            Due.is("crossing(0)", x.crossing(0), 0);
            Due.is("crossing(1)", x.crossing(1), 0);
        });
        t.holds(come, "0 again, after it was something else", x -> {
            x.limit(0, 0, 5, 500, 0);
            x.limit(0, 1, 5, 500, 0);
            Due.is("crossing(0)", x.crossing(0), 500);
            x.cancel(1);
            Due.is("crossing(0)", x.crossing(0), 0);
            Due.is("crossing(1)", x.crossing(1), 0);
        });
        t.holds(come, "just as much as would trade", x -> {
            x.limit(0, 0, 5, 500, 0);
            x.limit(0, 1, 1, 500, 0);
            Due.is("crossing(0)", x.crossing(0), 500);
            Due.is("crossing(1)", x.crossing(1), 1);
        });
        t.holds(come, "nothing trades by being asked", x -> {
            x.limit(0, 0, 5, 500, 0);
            x.limit(0, 1, 1, 500, 0);
            java.util.List<String> before = Snapshot.of(x);
            x.crossing(0);
            x.crossing(1);
            Due.is(Snapshot.difference(before, Snapshot.of(x)), before.equals(Snapshot.of(x)) ? 1 : 0, 1);
        });
        t.holds(come, "of what is VISIBLE or not", x -> {
            x.hidden(0, 0, 999, 500, 1);
            x.hidden(1, 1, 998, 500, 1);
            Due.is("crossing(1)", x.crossing(1), 998);
        });
        t.holds(come, "after a close()", Books::richAuction, x -> {
            x.limit(0, 1, 4, 490, 0);
            Due.is("crossing(0)", x.crossing(0), 490);
            Due.is("crossing(1)", x.crossing(1), 4);
        });
    }

    private static void crossingRefusals() {
        Edge t = Edge.promise(21);
        t.refuses("-5 another what;", "-1", Books::richAuction, x -> x.crossing(-1), -5);
        t.refuses("-5 another what;", "2", Books::richAuction, x -> x.crossing(2), -5);
        t.refuses("-5 another what;", "least", Books::richAuction, x -> x.crossing(LEAST), -5);
        t.refuses("-6 it is OPEN.", "what 0", Books::rich, x -> x.crossing(0), -6);
        t.refuses("-6 it is OPEN.", "what 1", Books::rich, x -> x.crossing(1), -6);
    }
}
