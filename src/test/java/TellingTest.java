/** Promises 22 to 31: what is told of orders, the book, trades, owners. */
public final class TellingTest {
    private TellingTest() {
    }

    public static void main(String[] args) {
        orderOf();
        orderOfRefusals();
        rank();
        rankRefusals();
        depth();
        depthRefusals();
        ahead();
        sweep();
        sweepRefusals();
        sixtyRest();
        trades();
        trade();
        tradesKept();
        position();
        cash();
        judge();
        judgeSorts();
        judgeRefusals();
        Due.end();
    }

    private static long[] all(UncrossedBook x, int o) {
        long[] told = new long[8];
        for (int what = 0; what < 8; what++) {
            told[what] = x.orderOf(o, what);
        }
        return told;
    }

    private static void orderOf() {
        UncrossedBook x = Books.opened();
        x.limit(3, 1, 9, 505, 0);
        x.hidden(4, 0, 30, 500, 8);
        x.pegged(5, 0, 6, 2);
        x.halt(6, 1, 7, 100);
        x.market(7, 1, 5);
        x.market(7, 0, 9);
        Due.are("22: limit", all(x, 0), 1, 3, 1, 0, 2, 505, 0, 9);
        Due.are("22: hidden", all(x, 1), 2, 4, 0, 25, 1, 500, 3, 5);
        Due.are("22: pegged", all(x, 2), 3, 5, 0, 6, 1, 498, 6, 0);
        Due.are("22: stop", all(x, 3), 4, 6, 1, 7, 0, 100, 0, 0);
        x.cancel(1);
        Due.are("22: hidden, gone", all(x, 1), 2, 4, 0, 25, 3, 500, 0, 5);
        Due.are("22: pegged, no price", all(x, 2), 3, 5, 0, 6, 1, 0, 6, 0);
        x.cancel(2);
        x.limit(0, 0, 1, 500, 0);
        Due.are("22: pegged, gone", all(x, 2), 3, 5, 0, 6, 3, 0, 0, 0);
    }

    private static void orderOfRefusals() {
        UncrossedBook x = new UncrossedBook();
        x.limit(0, 0, 1, 1, 0);
        Due.is("22: no such", x.orderOf(-1, 0), -5);
        Due.is("22: no such", x.orderOf(1, 0), -5);
        Due.is("22: what", x.orderOf(0, -1), -5);
        Due.is("22: what", x.orderOf(0, 8), -5);
        Due.are("22: refusals", Books.refusals(x), 0, 0, 0, 0, 4, 0, 0);
    }

    private static void rank() {
        UncrossedBook x = new UncrossedBook();
        x.limit(0, 0, 1, 500, 0);
        x.limit(0, 0, 1, 502, 0);
        x.limit(0, 0, 1, 500, 0);
        x.hidden(0, 0, 1, 501, 1);
        x.pegged(0, 0, 1, 1);
        x.limit(0, 1, 1, 502, 0);
        x.limit(0, 1, 1, 500, 0);
        x.pegged(0, 1, 1, 2);
        x.limit(0, 1, 1, 502, 0);
        Due.are("23: buys", Books.line(x, 0), 1, 3, 4, 0, 2);
        Due.are("23: sells", Books.line(x, 1), 6, 5, 8, 7);
        x.cancel(3);
        Due.are("23: one less", Books.line(x, 0), 1, 4, 0, 2);
    }

    private static void rankRefusals() {
        UncrossedBook x = new UncrossedBook();
        x.limit(0, 0, 1, 500, 0);
        Due.is("23: below", x.rank(0, -1), -1);
        Due.is("23: beyond", x.rank(0, 1), -1);
        Due.is("23: far", x.rank(0, Integer.MAX_VALUE), -1);
        Due.is("23: far", x.rank(0, Integer.MIN_VALUE), -1);
        Due.is("23: side", x.rank(-1, 0), -11);
        Due.is("23: side", x.rank(2, 0), -11);
        Due.are("23: refusals", Books.refusals(x), 2, 0, 0, 0, 0, 0, 0);
    }

    private static void depth() {
        UncrossedBook x = new UncrossedBook();
        x.limit(0, 0, 5, 500, 0);
        x.limit(0, 0, 7, 502, 0);
        x.hidden(0, 0, 20, 500, 3);
        x.pegged(0, 0, 4, 2);
        x.limit(0, 1, 8, 503, 0);
        x.limit(0, 1, 9, 501, 0);
        Due.is("24: best", x.depth(0, 0, 0), 502);
        Due.is("24: visible", x.depth(0, 0, 1), 7);
        Due.is("24: next", x.depth(0, 1, 0), 500);
        Due.is("24: visible of all of it", x.depth(0, 1, 1), 12);
        Due.is("24: no third", x.depth(0, 2, 0), -1);
        Due.is("24: no third", x.depth(0, 2, 1), -1);
        Due.is("24: sells", x.depth(1, 0, 0), 501);
        Due.is("24: sells", x.depth(1, 1, 0), 503);
        Due.is("24: sells", x.depth(1, 1, 1), 8);
        x.limit(0, 1, 3, 1, 0);
        Due.is("24: the edge 1", x.depth(1, 0, 0), 1);
        Due.is("24: the edge 1", x.depth(1, 1, 0), 501);
    }

    private static void depthRefusals() {
        UncrossedBook x = new UncrossedBook();
        x.limit(0, 0, 5, 500, 0);
        Due.is("24: below", x.depth(0, -1, 0), -1);
        Due.is("24: least", x.depth(0, Integer.MIN_VALUE, 0), -1);
        Due.is("24: most", x.depth(0, Integer.MAX_VALUE, 1), -1);
        Due.is("24: side", x.depth(-1, 0, 2), -11);
        Due.is("24: side", x.depth(2, 0, 0), -11);
        Due.is("24: what", x.depth(0, 0, -1), -15);
        Due.is("24: what, no k-th", x.depth(0, 9, 2), -15);
        Due.are("24: refusals", Books.refusals(x), 2, 0, 0, 0, 2, 0, 0);
    }

    private static void ahead() {
        UncrossedBook x = new UncrossedBook();
        x.limit(0, 0, 5, 500, 0);
        x.hidden(0, 0, 20, 501, 3);
        x.limit(0, 0, 7, 500, 0);
        x.pegged(0, 0, 4, 1);
        x.halt(0, 0, 4, 1);
        x.pegged(0, 1, 4, 1);
        x.limit(0, 0, 7, 500, 1);
        Due.is("25: first", x.ahead(1), 0);
        Due.is("25: what is visible", x.ahead(0), 3);
        Due.is("25: and of all", x.ahead(2), 8);
        Due.is("25: pegged", x.ahead(3), 15);
        Due.is("25: waits", x.ahead(4), -1);
        Due.is("25: no price", x.ahead(5), -1);
        Due.is("25: gone", x.ahead(6), -1);
        Due.is("25: no such", x.ahead(7), -11);
        Due.is("25: no such", x.ahead(-1), -11);
        Due.are("25: refusals", Books.refusals(x), 2, 0, 0, 0, 0, 0, 0);
    }

    private static void sweep() {
        UncrossedBook x = new UncrossedBook();
        x.rule(1);
        x.hidden(0, 1, 20, 500, 3);
        x.limit(0, 1, 5, 501, 0);
        x.limit(0, 0, 4, 499, 0);
        x.pegged(0, 1, 6, 2);
        Due.is("26: one", x.sweep(0, 1), 500);
        Due.is("26: whole left", x.sweep(0, 20), 10000);
        Due.is("26: on", x.sweep(0, 22), 11002);
        Due.is("26: all, pegged ones too", x.sweep(0, 31), 10000 + 2505 + 3012);
        Due.is("26: not that much", x.sweep(0, 32), -1);
        Due.is("26: a sell", x.sweep(1, 4), 1996);
        Due.is("26: not that much", x.sweep(1, 5), -1);
        x.uncross();
        Due.is("26: in either phase", x.sweep(0, 21), 10501);
        Due.is("26: nothing trades", x.trades(), 0);
    }

    private static void sweepRefusals() {
        UncrossedBook x = Books.opened();
        for (int i = 0; i < 60; i++) {
            x.limit(0, 1, 999, 999, 0);
        }
        Due.is("26: all", x.sweep(0, 60 * 999), 60 * 999 * 999);
        Due.is("26: one more", x.sweep(0, 60 * 999 + 1), -1);
        Due.is("26: most", x.sweep(0, 99999), -1);
        Due.is("26: side", x.sweep(-1, 0), -11);
        Due.is("26: side", x.sweep(2, 1), -11);
        Due.is("26: 0", x.sweep(0, 0), -16);
        Due.is("26: below", x.sweep(0, -1), -16);
        Due.is("26: 100000", x.sweep(0, 100000), -16);
        Due.are("26: refusals", Books.refusals(x), 2, 0, 0, 0, 0, 3, 0);
    }

    private static void sixtyRest() {
        UncrossedBook x = Books.opened();
        for (int i = 0; i < 59; i++) {
            x.limit(0, 1, 2, 500, 0);
        }
        Due.is("9: all of 59", x.limit(1, 0, 118, 500, 2), 59);
        Due.is("9: they traded", x.trades(), 59);
        x = new UncrossedBook();
        for (int i = 0; i < 60; i++) {
            x.limit(0, 1, 2, 500, 0);
        }
        Due.is("23: the last", x.rank(1, 59), 59);
        Due.is("23: no more", x.rank(1, 60), -1);
        Due.is("24: all", x.depth(1, 0, 1), 120);
        Due.is("24: no second", x.depth(1, 1, 0), -1);
        Due.is("25: the last", x.ahead(59), 118);
        Due.is("34: all", x.image(), 60);
        Due.is("35: all", x.restore(), 60);
        Due.is("19: all", x.uncross(), 0);
        Due.is("36: all", x.status(1), 60);
    }

    private static void trades() {
        UncrossedBook x = Books.opened();
        Due.is("27: none", x.trades(), 0);
        x.limit(0, 1, 9, 500, 0);
        x.market(1, 0, 2);
        Due.is("27: one", x.trades(), 1);
        x.market(1, 0, 2);
        Due.is("27: two", x.trades(), 2);
    }

    private static void trade() {
        UncrossedBook x = Books.opened();
        x.limit(0, 1, 9, 500, 0);
        x.limit(0, 0, 9, 499, 0);
        x.limit(1, 0, 2, 501, 0);
        x.market(1, 1, 3);
        Due.are("28: a limit one that bought", Books.trade(x, 0), 2, 0, 500, 2);
        Due.are("28: a market one that sold", Books.trade(x, 1), 1, -1, 499, 3);
        Due.is("28: no such", x.trade(2, 0), -5);
        Due.is("28: below", x.trade(-1, 0), -5);
        Due.is("28: what", x.trade(0, -1), -5);
        Due.is("28: what", x.trade(0, 4), -5);
        Due.are("28: refusals", Books.refusals(x), 0, 0, 0, 0, 4, 0, 0);
    }

    private static void tradesKept() {
        UncrossedBook x = Books.opened();
        x.hidden(0, 1, 250, 500, 1);
        x.market(1, 0, 250);
        Due.is("27: all", x.trades(), 250);
        Due.are("28: the last that is kept", Books.trade(x, 199), -1, 0, 500, 1);
        Due.is("28: no more are kept", x.trade(200, 0), -5);
        Due.is("28: nor the last", x.trade(249, 0), -5);
        Due.is("29: all count", x.position(1), 1000250);
        Due.is("30: all count", x.cash(1), 1000000000 - 250 * 500);
    }

    private static void position() {
        UncrossedBook x = Books.opened();
        x.limit(0, 1, 9, 500, 0);
        x.limit(7, 0, 5, 500, 0);
        x.market(7, 0, 2);
        Due.is("29: sold", x.position(0), 999993);
        Due.is("29: bought", x.position(7), 1000007);
        Due.is("29: nothing", x.position(3), 1000000);
        Due.is("29: no such", x.position(-1), -1);
        Due.is("29: no such", x.position(8), -1);
        Due.are("29: refusals", Books.refusals(x), 2, 0, 0, 0, 0, 0, 0);
    }

    private static void cash() {
        UncrossedBook x = Books.opened();
        x.limit(0, 1, 9, 500, 0);
        x.limit(7, 0, 5, 510, 0);
        x.limit(1, 0, 3, 300, 0);
        x.market(7, 1, 2);
        Due.is("30: got", x.cash(0), 1000002500);
        Due.is("30: paid and got", x.cash(7), 1000000000 - 2500 + 600);
        Due.is("30: paid", x.cash(1), 1000000000 - 600);
        Due.is("30: nothing", x.cash(3), 1000000000);
        Due.is("30: no such", x.cash(-1), -1);
        Due.is("30: no such", x.cash(8), -1);
        Due.are("30: refusals", Books.refusals(x), 2, 0, 0, 0, 0, 0, 0);
    }

    /** Trades 1, 0, 500, 2 and -1, 0, 500, 3. */
    private static UncrossedBook twoTrades() {
        UncrossedBook x = Books.opened();
        x.limit(0, 1, 9, 500, 0);
        x.limit(1, 0, 2, 500, 0);
        x.market(1, 0, 3);
        return x;
    }

    private static void judge() {
        UncrossedBook x = twoTrades();
        Books.putRow(x, 0, 1, 1, 0, 500, 2, -1, 0, 500, 3, 1, 0, 500, 2);
        Due.is("31: none told", x.judge(0, 0), -1);
        Due.is("31: one", x.judge(0, 1), -1);
        Due.is("31: both", x.judge(0, 2), -1);
        Due.is("31: no such trade", x.judge(0, 3), 2);
        for (int i = 0; i < 8; i++) {
            long was = x.element(0, i);
            x.set(0, i, was + 1);
            Due.is("31: wrong at " + i, x.judge(0, 2), i / 4);
            x.set(0, i, was);
        }
        x.set(0, 7, 4);
        Due.is("31: not among the first", x.judge(0, 1), -1);
        x.set(0, 0, 0);
        Due.is("31: the first that is wrong", x.judge(0, 3), 0);
        Books.putRow(x, 1, 2, new long[160]);
        Due.is("31: forty", x.judge(1, 40), 0);
    }

    private static void judgeSorts() {
        UncrossedBook x = twoTrades();
        Books.putRow(x, 0, 3, 1L << 32 | 1, 1L << 40, 500, 2, 0xffffffffL, 0, 500, 3);
        Due.is("31: a long's lowest 32 bits", x.judge(0, 2), -1);
        Books.putRow(x, 0, 0, 1, 0, 500, 2);
        Due.is("31: bytes are too small", x.judge(0, 1), 0);
        x = Books.opened();
        x.limit(0, 1, 9, 100, 0);
        x.market(1, 0, 3);
        Books.putRow(x, 0, 0, 255, 0, 100, 3);
        Due.is("31: bytes have a sign", x.judge(0, 1), -1);
        Due.is("31: trades that were restored", restored(x), 0);
    }

    private static int restored(UncrossedBook x) {
        x.image();
        x.market(1, 0, 2);
        x.restore();
        Books.putRow(x, 0, 0, 255, 0, 100, 3, 255, 0, 100, 2);
        return x.judge(0, 2) - 1;
    }

    private static void judgeRefusals() {
        UncrossedBook x = twoTrades();
        x.show(1, 0);
        x.row(0, 0, 11);
        x.row(2, 0, 160);
        Due.is("31: shelf", x.judge(-1, -1), -11);
        Due.is("31: shelf", x.judge(8, 0), -11);
        Due.is("31: order", x.judge(1, -1), -12);
        Due.is("31: nothing", x.judge(3, -1), -13);
        Due.is("31: below", x.judge(0, -1), -14);
        Due.is("31: fewer", x.judge(0, 3), -15);
        Due.is("31: fewer, before above 40", x.judge(2, 41), -15);
        Due.is("31: most", x.judge(2, Integer.MAX_VALUE), -15);
        Due.is("31: least", x.judge(2, Integer.MIN_VALUE), -14);
        Due.are("31: refusals", Books.refusals(x), 2, 1, 1, 2, 3, 0, 0);
    }
}
