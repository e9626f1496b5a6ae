/** Edges of promises 22 to 31: what is told of orders, the book, trades, owners. */
public final class EdgeTellingTest {
    private static final int LEAST = Integer.MIN_VALUE;
    private static final int MOST = Integer.MAX_VALUE;

    private EdgeTellingTest() {
    }

    public static void main(String[] args) {
        add();
        Edge.run();
    }

    static void add() {
        orderOf();
        orderOfVisible();
        orderOfRefusals();
        rank();
        depth();
        depthRefusals();
        ahead();
        sweep();
        sweepRefusals();
        trades();
        trade();
        position();
        cash();
        judge();
        judgeOtherwise();
        judgeRefusals();
    }

    private static void orderOf() {
        Edge t = Edge.promise(22);
        String first = "Of one: 0 KIND, 1 OWNER, 2 SIDE, 3 LEFT, 4 STATE,";
        t.holds(first, "ORDERS 0 and 59", () -> {
            UncrossedBook x = Books.withOrders(59);
            x.pegged(7, 1, 999, 0);
            return x;
        }, x -> {
            Due.is("orderOf(0, 0)", x.orderOf(0, 0), 1);
            Due.is("orderOf(0, 4)", x.orderOf(0, 4), Books.GONE);
            Due.is("orderOf(59, 0)", x.orderOf(59, 0), 3);
            Due.is("orderOf(59, 1)", x.orderOf(59, 1), 7);
            Due.is("orderOf(59, 2)", x.orderOf(59, 2), 1);
            Due.is("orderOf(59, 3)", x.orderOf(59, 3), 999);
            Due.is("orderOf(59, 4)", x.orderOf(59, 4), Books.RESTING);
        });
        t.holds(first, "LEFT 0 of one FILLED, what it had of one GONE", Books::rich, x -> {
            Due.is("orderOf(5, 3)", x.orderOf(5, 3), 0);
            Due.is("orderOf(4, 3)", x.orderOf(4, 3), 3);
        });
        String price = "5 PRICE (as says() of LIMIT, PEGGED; STOP its TRIGGER),";
        t.holds(price, "of LIMIT and HIDDEN ones that REST no more", Books::rich, x -> {
            x.cancel(1);
            Due.is("orderOf(1, 5), GONE", x.orderOf(1, 5), 490);
            Due.is("orderOf(4, 5), GONE", x.orderOf(4, 5), 480);
            Due.is("orderOf(5, 5), FILLED", x.orderOf(5, 5), 490);
        });
        t.holds(price, "0 of a PEGGED one that has none", Books::rich, x -> {
            Due.is("orderOf(2, 5)", x.orderOf(2, 5), 489);
            x.cancel(1);
            Due.is("orderOf(2, 5), none to follow", x.orderOf(2, 5), 0);
        });
        t.holds(price, "0 of a PEGGED one that is GONE", Books::rich, x -> {
            x.cancel(2);
            Due.is("orderOf(2, 5)", x.orderOf(2, 5), 0);
        });
        t.holds(price, "the TRIGGER of a STOP that WAITS, and of one GONE", Books::rich, x -> {
            Due.is("orderOf(3, 5)", x.orderOf(3, 5), 600);
            x.cancel(3);
            Due.is("orderOf(3, 5), GONE", x.orderOf(3, 5), 600);
        });
        String traded = "7 what it traded.";
        t.holds(traded, "0 of those that didn't, all of one FILLED", Books::rich, x -> {
            Due.is("orderOf(0, 7)", x.orderOf(0, 7), 0);
            Due.is("orderOf(2, 7)", x.orderOf(2, 7), 0);
            Due.is("orderOf(4, 7)", x.orderOf(4, 7), 0);
            Due.is("orderOf(5, 7)", x.orderOf(5, 7), 1);
        });
        t.holds(traded, "of several trades together", Books::rich, x ->
                Due.is("orderOf(1, 7)", x.orderOf(1, 7), 3));
        t.holds(traded, "not what was taken by RULE 3", Books::opened, x -> {
            x.limit(0, 1, 5, 500, 0);
            x.rule(3);
            x.limit(0, 0, 2, 500, 0);
            Due.is("orderOf(0, 7)", x.orderOf(0, 7), 0);
            Due.is("orderOf(1, 7)", x.orderOf(1, 7), 0);
        });
    }

    private static void orderOfVisible() {
        Edge t = Edge.promise(22);
        String visible = "6 VISIBLE (0: it doesn't REST),";
        t.holds(visible, "LEFT of LIMIT and PEGGED ones that REST", Books::rich, x -> {
            Due.is("orderOf(0, 6)", x.orderOf(0, 6), 5);
            Due.is("orderOf(2, 6)", x.orderOf(2, 6), 7);
        });
        t.holds(visible, "LEFT of a PEGGED one without a PRICE", x -> {
            x.pegged(0, 0, 5, 1);
            Due.is("orderOf(0, 6)", x.orderOf(0, 6), 5);
        });
        t.holds(visible, "0 of a STOP that WAITS", Books::rich, x ->
                Due.is("orderOf(3, 6)", x.orderOf(3, 6), 0));
        t.holds(visible, "0 of LIMIT ones GONE and FILLED", Books::rich, x -> {
            Due.is("orderOf(4, 6)", x.orderOf(4, 6), 0);
            Due.is("orderOf(5, 6)", x.orderOf(5, 6), 0);
        });
        t.holds(visible, "0 of HIDDEN and PEGGED ones GONE", Books::rich, x -> {
            Due.is("orderOf(1, 6), RESTING", x.orderOf(1, 6), 3);
            x.cancel(1);
            x.cancel(2);
            Due.is("orderOf(1, 6)", x.orderOf(1, 6), 0);
            Due.is("orderOf(2, 6)", x.orderOf(2, 6), 0);
        });
    }

    private static void orderOfRefusals() {
        Edge t = Edge.promise(22);
        String beyond = "-5: no such one, another what.";
        t.refuses(beyond, "ORDER -1", Books::rich, x -> x.orderOf(-1, 0), -5);
        t.refuses(beyond, "ORDER as many as there are", Books::rich, x -> x.orderOf(6, 0), -5);
        t.refuses(beyond, "ORDER 60", Books::full, x -> x.orderOf(60, 0), -5);
        t.refuses(beyond, "ORDER least", Books::rich, x -> x.orderOf(LEAST, 0), -5);
        t.refuses(beyond, "ORDER most", Books::rich, x -> x.orderOf(MOST, 0), -5);
        t.refuses(beyond, "what -1", Books::rich, x -> x.orderOf(0, -1), -5);
        t.refuses(beyond, "what 8", Books::rich, x -> x.orderOf(0, 8), -5);
        t.refuses(beyond, "what most", Books::rich, x -> x.orderOf(0, MOST), -5);
    }

    private static void rank() {
        Edge t = Edge.promise(23);
        String rank = "The i-th by RANK; NONE: no such.";
        t.holds(rank, "the first and the last", Books::rich, x -> {
            Due.is("rank(0, 0)", x.rank(0, 0), 1);
            Due.is("rank(0, 1)", x.rank(0, 1), 2);
            Due.is("rank(1, 0)", x.rank(1, 0), 0);
        });
        t.answers(rank, "i -1", Books::rich, x -> x.rank(0, -1), -1);
        t.answers(rank, "i as many as there are", Books::rich, x -> x.rank(0, 2), -1);
        t.answers(rank, "i least", Books::rich, x -> x.rank(0, LEAST), -1);
        t.answers(rank, "i most", Books::rich, x -> x.rank(0, MOST), -1);
        t.answers(rank, "a SIDE without any", UncrossedBook::new, x -> x.rank(1, 0), -1);
        t.holds(rank, "all 60", x -> {
            for (int i = 0; i < 60; i++) {
                x.limit(0, 1, 1, 999 - i, 0);
            }
            Due.is("rank(1, 0)", x.rank(1, 0), 59);
            Due.is("rank(1, 59)", x.rank(1, 59), 0);
            Due.is("rank(1, 60)", x.rank(1, 60), -1);
        });
        t.holds(rank, "NONE is no refusal", x -> {
            x.rank(0, -1);
            x.rank(0, 0);
            Due.are("refusals", Books.refusals(x), 0, 0, 0, 0, 0, 0, 0);
        });
        t.refuses("-11 (counted as -1).", "SIDE -1", Books::rich, x -> x.rank(-1, 0), -11);
        t.refuses("-11 (counted as -1).", "SIDE 2", Books::rich, x -> x.rank(2, 0), -11);
        t.refuses("-11 (counted as -1).", "SIDE 2, i -1", Books::rich, x -> x.rank(2, -1), -11);
    }

    private static UncrossedBook twoPrices() {
        UncrossedBook x = new UncrossedBook();
        x.limit(0, 0, 5, 500, 0);
        x.hidden(0, 0, 9, 500, 2);
        x.limit(0, 0, 3, 498, 0);
        x.pegged(0, 0, 7, 2);
        return x;
    }

    private static void depth() {
        Edge t = Edge.promise(24);
        String depth = "DEPTH: PRICE (what 0), what is VISIBLE (1);";
        t.holds(depth, "the first and the last", EdgeTellingTest::twoPrices, x -> {
            Due.is("depth(0, 0, 0)", x.depth(0, 0, 0), 500);
            Due.is("depth(0, 0, 1)", x.depth(0, 0, 1), 7);
            Due.is("depth(0, 1, 0)", x.depth(0, 1, 0), 498);
            Due.is("depth(0, 1, 1)", x.depth(0, 1, 1), 10);
        });
        t.holds(depth, "PRICES 1 and 999", x -> {
            x.limit(0, 0, 1, 1, 0);
            x.limit(0, 1, 999, 999, 0);
            Due.is("depth(0, 0, 0)", x.depth(0, 0, 0), 1);
            Due.is("depth(1, 0, 0)", x.depth(1, 0, 0), 999);
            Due.is("depth(1, 0, 1)", x.depth(1, 0, 1), 999);
        });
        t.holds(depth, "60 PRICES", x -> {
            for (int i = 0; i < 60; i++) {
                x.limit(0, 0, 1 + i, 900 - i, 0);
            }
            Due.is("depth(0, 59, 0)", x.depth(0, 59, 0), 841);
            Due.is("depth(0, 59, 1)", x.depth(0, 59, 1), 60);
            Due.is("depth(0, 60, 0)", x.depth(0, 60, 0), -1);
        });
        t.holds(depth, "60 of one PRICE", x -> {
            for (int i = 0; i < 60; i++) {
                x.limit(0, 0, 999, 900, 0);
            }
            Due.is("depth(0, 0, 1)", x.depth(0, 0, 1), 60 * 999);
            Due.is("depth(0, 1, 1)", x.depth(0, 1, 1), -1);
        });
        t.answers("NONE: no k-th.", "k as many as there are", EdgeTellingTest::twoPrices, x -> x.depth(0, 2, 0), -1);
        t.answers("NONE: no k-th.", "the same, what 1", EdgeTellingTest::twoPrices, x -> x.depth(0, 2, 1), -1);
        t.answers("NONE: no k-th.", "k -1", EdgeTellingTest::twoPrices, x -> x.depth(0, -1, 0), -1);
        t.answers("NONE: no k-th.", "k least", EdgeTellingTest::twoPrices, x -> x.depth(0, LEAST, 1), -1);
        t.answers("NONE: no k-th.", "k most", EdgeTellingTest::twoPrices, x -> x.depth(0, MOST, 1), -1);
        t.answers("NONE: no k-th.", "a SIDE without any", EdgeTellingTest::twoPrices, x -> x.depth(1, 0, 0), -1);
        t.holds("NONE: no k-th.", "it is no refusal", x -> {
            x.depth(0, 0, 0);
            x.depth(1, -1, 1);
            Due.are("refusals", Books.refusals(x), 0, 0, 0, 0, 0, 0, 0);
        });
        t.holds("NONE: no k-th.", "PEGGED ones without a PRICE have no place", x -> {
            x.pegged(0, 0, 5, 0);
            Due.is("depth(0, 0, 0)", x.depth(0, 0, 0), -1);
        });
    }

    private static void depthRefusals() {
        Edge t = Edge.promise(24);
        t.refuses("-11;", "SIDE -1", Books::rich, x -> x.depth(-1, 0, 0), -11);
        t.refuses("-11;", "SIDE 2", Books::rich, x -> x.depth(2, 0, 0), -11);
        String what = "-15 another what (counted as -1, -5).";
        t.refuses(what, "what -1", Books::rich, x -> x.depth(0, 0, -1), -15);
        t.refuses(what, "what 2", Books::rich, x -> x.depth(0, 0, 2), -15);
        t.refuses(what, "what 2, where there is no k-th", Books::rich, x -> x.depth(0, 9, 2), -15);
    }

    private static void ahead() {
        Edge t = Edge.promise(25);
        t.answers("AHEAD;", "of the first: 0", EdgeTellingTest::twoPrices, x -> x.ahead(0), 0);
        t.answers("AHEAD;", "of the last", EdgeTellingTest::twoPrices, x -> x.ahead(3), 10);
        t.holds("AHEAD;", "of the last of 60", x -> {
            for (int i = 0; i < 60; i++) {
                x.limit(0, 1, 999, 1, 0);
            }
            Due.is("ahead(59)", x.ahead(59), 59 * 999);
        });
        String none = "NONE: it doesn't REST or has no PRICE.";
        t.answers(none, "it WAITS", Books::rich, x -> x.ahead(3), -1);
        t.answers(none, "it is GONE", Books::rich, x -> x.ahead(4), -1);
        t.answers(none, "it is FILLED", Books::rich, x -> x.ahead(5), -1);
        t.holds(none, "a PEGGED one, with and without a PRICE", Books::rich, x -> {
            Due.is("ahead(2)", x.ahead(2), 3);
            x.cancel(1);
            Due.is("ahead(2)", x.ahead(2), -1);
        });
        t.holds(none, "it is no refusal", Books::rich, x -> {
            long[] before = Books.refusals(x);
            x.ahead(3);
            Due.are("refusals", Books.refusals(x), before);
        });
        t.refuses("-11 (counted as -1).", "ORDER -1", Books::rich, x -> x.ahead(-1), -11);
        t.refuses("-11 (counted as -1).", "ORDER as many as there are", Books::rich, x -> x.ahead(6), -11);
        t.refuses("-11 (counted as -1).", "ORDER 60", Books::full, x -> x.ahead(60), -11);
        t.refuses("-11 (counted as -1).", "ORDER least", Books::rich, x -> x.ahead(LEAST), -11);
    }

    private static void sweep() {
        Edge t = Edge.promise(26);
        String sweep = "What a SWEEP by one of a SIDE (with the other SIDE) would cost; NONE.";
        t.answers(sweep, "1", EdgeTellingTest::twoPrices, x -> x.sweep(1, 1), 500);
        t.answers(sweep, "all there is", EdgeTellingTest::twoPrices, x -> x.sweep(1, 24), 14 * 500 + 10 * 498);
        t.answers(sweep, "one more than there is", EdgeTellingTest::twoPrices, x -> x.sweep(1, 25), -1);
        t.answers(sweep, "its own SIDE is of no use", EdgeTellingTest::twoPrices, x -> x.sweep(0, 1), -1);
        t.answers(sweep, "99,999", EdgeTellingTest::twoPrices, x -> x.sweep(1, 99999), -1);
        t.holds(sweep, "all of 60", x -> {
            for (int i = 0; i < 60; i++) {
                x.limit(0, 1, 999, 999, 0);
            }
            Due.is("sweep(0, 59940)", x.sweep(0, 59940), 59940 * 999);
            Due.is("sweep(0, 59941)", x.sweep(0, 59941), -1);
        });
        t.holds(sweep, "NONE is no refusal", x -> {
            x.sweep(0, 99999);
            Due.are("refusals", Books.refusals(x), 0, 0, 0, 0, 0, 0, 0);
        });
    }

    private static void sweepRefusals() {
        Edge t = Edge.promise(26);
        t.refuses("-11;", "SIDE -1", Books::rich, x -> x.sweep(-1, 1), -11);
        t.refuses("-11;", "SIDE 2", Books::rich, x -> x.sweep(2, 1), -11);
        String wrong = "-16 QUANTITY (1 to 99,999; counted as -1, -6).";
        t.refuses(wrong, "0", Books::rich, x -> x.sweep(0, 0), -16);
        t.refuses(wrong, "-1", Books::rich, x -> x.sweep(0, -1), -16);
        t.refuses(wrong, "least", Books::rich, x -> x.sweep(0, LEAST), -16);
        t.refuses(wrong, "100,000", Books::rich, x -> x.sweep(0, 100000), -16);
        t.refuses(wrong, "most", Books::rich, x -> x.sweep(0, MOST), -16);
        t.answers(wrong, "1 may be", Books::rich, x -> x.sweep(0, 1), 510);
        t.answers(wrong, "99,999 may be", Books::rich, x -> x.sweep(0, 99999), -1);
    }

    private static void trades() {
        Edge t = Edge.promise(27);
        t.answers("How many TRADES there were.", "none", UncrossedBook::new, x -> x.trades(), 0);
        t.holds("How many TRADES there were.", "199, 200, 201: those that aren't kept too", Books::opened, x -> {
            x.hidden(0, 1, 999, 500, 1);
            x.market(1, 0, 199);
            Due.is("trades()", x.trades(), 199);
            x.market(1, 0, 1);
            Due.is("trades()", x.trades(), 200);
            x.market(1, 0, 1);
            Due.is("trades()", x.trades(), 201);
            x.market(1, 0, 798);
            Due.is("trades()", x.trades(), 999);
        });
        t.holds("How many TRADES there were.", "nothing taken by RULES 1 to 3 is one", Books::opened, x -> {
            for (int rule = 1; rule < 4; rule++) {
                x.limit(0, 1, 5, 500, 0);
                x.rule(rule);
                x.limit(0, 0, 5, 500, 1);
            }
            Due.is("trades()", x.trades(), 0);
        });
    }

    private static void trade() {
        Edge t = Edge.promise(28);
        String told = "Of the i-th TRADE: 0 BUY, 1 SELL (NONE: MARKET), 2 PRICE, 3 QUANTITY.";
        t.holds(told, "a MARKET one sold", Books::rich, x ->
                Due.are("trade 0", Books.trade(x, 0), 1, -1, 490, 2));
        t.holds(told, "a MARKET one bought", Books::rich, x -> {
            x.market(2, 0, 5);
            Due.are("trade 2", Books.trade(x, 2), -1, 0, 510, 5);
        });
        t.holds(told, "the last one", Books::rich, x ->
                Due.are("trade 1", Books.trade(x, 1), 1, 5, 490, 1));
        t.holds(told, "ORDER 59, PRICE and QUANTITY 999", () -> Books.withOrders(58), x -> {
            x.limit(0, 1, 999, 999, 0);
            x.uncross();
            x.limit(1, 0, 999, 999, 0);
            Due.are("trade 0", Books.trade(x, 0), 59, 58, 999, 999);
        });
        String beyond = "-5: no such one, another what.";
        t.refuses(beyond, "i -1", Books::rich, x -> x.trade(-1, 0), -5);
        t.refuses(beyond, "i as many as there were", Books::rich, x -> x.trade(2, 0), -5);
        t.refuses(beyond, "i least", Books::rich, x -> x.trade(LEAST, 0), -5);
        t.refuses(beyond, "i most", Books::rich, x -> x.trade(MOST, 0), -5);
        t.refuses(beyond, "none yet", UncrossedBook::new, x -> x.trade(0, 0), -5);
        t.refuses(beyond, "what -1", Books::rich, x -> x.trade(0, -1), -5);
        t.refuses(beyond, "what 4", Books::rich, x -> x.trade(0, 4), -5);
        t.refuses(beyond, "what most", Books::rich, x -> x.trade(0, MOST), -5);
    }

    private static void position() {
        Edge t = Edge.promise(29);
        t.answers("POSITION, and 1,000,000.", "no trade: just that", UncrossedBook::new, x -> x.position(0), 1000000);
        t.holds("POSITION, and 1,000,000.", "OWNERS 0 and 7, above and below", Books::opened, x -> {
            x.limit(0, 1, 999, 500, 0);
            x.market(7, 0, 999);
            Due.is("position(0)", x.position(0), 999001);
            Due.is("position(7)", x.position(7), 1000999);
        });
        t.refuses("-1.", "OWNER -1", Books::rich, x -> x.position(-1), -1);
        t.refuses("-1.", "OWNER 8", Books::rich, x -> x.position(8), -1);
        t.refuses("-1.", "OWNER least", Books::rich, x -> x.position(LEAST), -1);
        t.refuses("-1.", "OWNER most", Books::rich, x -> x.position(MOST), -1);
    }

    private static void cash() {
        Edge t = Edge.promise(30);
        t.answers("CASH, and 1,000,000,000.", "no trade: just that", UncrossedBook::new, x -> x.cash(7), 1000000000);
        t.holds("CASH, and 1,000,000,000.", "OWNERS 0 and 7, above and below", Books::opened, x -> {
            x.limit(0, 1, 999, 999, 0);
            x.market(7, 0, 999);
            Due.is("cash(0)", x.cash(0), 1000998001);
            Due.is("cash(7)", x.cash(7), 999001999);
        });
        t.holds("CASH, and 1,000,000,000.", "as much as many calls come to: it doesn't wrap", Books::opened, x -> {
            for (int i = 0; i < 60; i++) {
                x.limit(0, 1, 999, 999, 0);
                x.market(1, 0, 999);
            }
            Due.is("cash(0)", x.cash(0), 1000000000 + 60 * 998001);
            Due.is("cash(1)", x.cash(1), 1000000000 - 60 * 998001);
        });
        t.refuses("-1.", "OWNER -1", Books::rich, x -> x.cash(-1), -1);
        t.refuses("-1.", "OWNER 8", Books::rich, x -> x.cash(8), -1);
        t.refuses("-1.", "OWNER least", Books::rich, x -> x.cash(LEAST), -1);
        t.refuses("-1.", "OWNER most", Books::rich, x -> x.cash(MOST), -1);
    }

    /** Forty trades, all told in SHELF 0: by MARKET ones with ORDER 0, at 500, of 1. */
    private static UncrossedBook fortyTold() {
        UncrossedBook x = Books.opened();
        x.hidden(0, 1, 999, 500, 1);
        x.market(1, 0, 40);
        x.row(0, 2, 160);
        Books.putRow(x, 1, 2, UncrossedBook.NONE, 0, 500, 1);
        for (int four = 0; four < 40; four++) {
            x.copy(1, 0, 0, 4 * four, 4);
        }
        return x;
    }

    private static void judge() {
        Edge t = Edge.promise(31);
        String judge = "WRONG of a told ROW by the first n fours (0 to 40) of the ROW in SHELF s; NONE.";
        t.answers(judge, "n 0", EdgeTellingTest::fortyTold, x -> x.judge(0, 0), -1);
        t.answers(judge, "n 0 of a ROW with no element", () -> {
            UncrossedBook x = new UncrossedBook();
            x.row(0, 0, 0);
            return x;
        }, x -> x.judge(0, 0), -1);
        t.answers(judge, "n 40, none is WRONG", EdgeTellingTest::fortyTold, x -> x.judge(0, 40), -1);
        t.holds(judge, "n 40, the last is WRONG", EdgeTellingTest::fortyTold, x -> {
            x.set(0, 159, 2);
            Due.is("judge(0, 40)", x.judge(0, 40), 39);
            Due.is("judge(0, 39)", x.judge(0, 39), -1);
        });
        t.holds(judge, "the first is WRONG: 0, not NONE", EdgeTellingTest::fortyTold, x -> {
            x.set(0, 0, 0);
            Due.is("judge(0, 1)", x.judge(0, 1), 0);
        });
        t.holds(judge, "just as many elements as n asks", Books::rich, x ->
                Due.is("judge(5, 1)", x.judge(5, 1), -1));
        t.holds(judge, "more fours than there were trades", Books::rich, x -> {
            Books.putRow(x, 0, 2, 1, -1, 490, 2, 1, 5, 490, 1, 0, 0, 0, 0);
            Due.is("judge(0, 2)", x.judge(0, 2), -1);
            Due.is("judge(0, 3)", x.judge(0, 3), 2);
        });
        t.holds(judge, "NONE is no refusal, nor is WRONG", EdgeTellingTest::fortyTold, x -> {
            x.judge(0, 40);
            x.set(0, 0, 0);
            x.judge(0, 40);
            Due.are("refusals", Books.refusals(x), 0, 0, 0, 0, 0, 0, 0);
        });
    }

    private static void judgeOtherwise() {
        Edge t = Edge.promise(31);
        String judge = "WRONG of a told ROW by the first n fours (0 to 40) of the ROW in SHELF s; NONE.";
        for (int i = 0; i < 4; i++) {
            int element = i;
            t.holds(judge, "element " + i + " of a four is one more", Books::rich, x -> {
                x.set(5, element, x.element(5, element) + 1);
                Due.is("judge(5, 1)", x.judge(5, 1), 0);
            });
        }
        t.holds(judge, "of two WRONG ones the first", EdgeTellingTest::fortyTold, x -> {
            x.set(0, 4 * 7, 9);
            x.set(0, 4 * 3 + 3, 9);
            Due.is("judge(0, 40)", x.judge(0, 40), 3);
        });
        t.holds(judge, "what stands behind n fours is no matter", Books::rich, x -> {
            Books.putRow(x, 0, 2, 1, -1, 490, 2, 9, 9, 9);
            Due.is("judge(0, 1)", x.judge(0, 1), -1);
        });
    }

    private static void judgeRefusals() {
        Edge t = Edge.promise(31);
        t.refuses("-11;", "SHELF -1", Books::rich, x -> x.judge(-1, 0), -11);
        t.refuses("-11;", "SHELF 8", Books::rich, x -> x.judge(8, 0), -11);
        t.refuses("-12;", "an ORDER", Books::rich, x -> x.judge(1, 0), -12);
        t.refuses("-13;", "NOTHING", Books::rich, x -> x.judge(3, 0), -13);
        t.refuses("-14 n;", "-1", Books::rich, x -> x.judge(0, -1), -14);
        t.refuses("-14 n;", "least", Books::rich, x -> x.judge(0, LEAST), -14);
        t.refuses("-15 fewer elements;", "3 for n 1", Books::rich, x -> x.judge(0, 1), -15);
        t.refuses("-15 fewer elements;", "4 for n 2", Books::rich, x -> x.judge(5, 2), -15);
        t.refuses("-15 fewer elements;", "7 for n 2", () -> {
            UncrossedBook x = Books.rich();
            Books.putRow(x, 5, 2, 1, -1, 490, 2, 1, 5, 490);
            return x;
        }, x -> x.judge(5, 2), -15);
        t.refuses("-15 fewer elements;", "159 for n 40", () -> {
            UncrossedBook x = Books.rich();
            x.row(0, 0, 159);
            return x;
        }, x -> x.judge(0, 40), -15);
        t.refuses("-15 fewer elements;", "n of which 4 times wraps to 0", Books::rich, x -> x.judge(5, 1 << 30), -15);
        t.refuses("-15 fewer elements;", "n most", Books::rich, x -> x.judge(5, MOST), -15);
        // 41 fours are more elements than any ROW has, and -15 is ahead of -16.
        String above = "-16 n above 40 (counted as -1 to -6).";
        t.refuses(above, "41, where -15 fits first", EdgeTellingTest::fortyTold, x -> x.judge(0, 41), -15);
        t.answers(above, "40 may be", EdgeTellingTest::fortyTold, x -> x.judge(0, 40), -1);
    }
}
