/** What the tests do with a book again and again. */
final class Books {
    static final int BUY = 0;
    static final int SELL = 1;
    static final int LEFT = 3;
    static final int STATE = 4;
    static final int PRICE = 5;
    static final int VISIBLE = 6;
    static final int TRADED = 7;
    static final int WAITING = 0;
    static final int RESTING = 1;
    static final int FILLED = 2;
    static final int GONE = 3;
    static final int NUMBER_OF_MARKET = UncrossedBook.NONE;

    private Books() {
    }

    /** A new one that is OPEN. */
    static UncrossedBook opened() {
        UncrossedBook x = new UncrossedBook();
        x.uncross();
        return x;
    }

    /** One that is OPEN, and whose LAST is this. */
    static UncrossedBook openedAt(int last) {
        UncrossedBook x = opened();
        x.limit(7, SELL, 1, last, 0);
        x.market(6, BUY, 1);
        return x;
    }

    /** One with so many ORDERS, that are GONE. */
    static UncrossedBook withOrders(int n) {
        UncrossedBook x = new UncrossedBook();
        for (int i = 0; i < n; i++) {
            x.limit(0, BUY, 1, 1, 1);
        }
        return x;
    }

    /**
     * OPEN, with some of everything. ORDERS: 0 LIMIT, 1 HIDDEN, 2 PEGGED (all
     * RESTING), 3 STOP (WAITING), 4 LIMIT (GONE), 5 LIMIT (FILLED). SHELVES: 0
     * bytes, 1 ORDER 1, 2 shorts, 3 NOTHING, 4 bytes (a TEXT of an ITEM), 5 ints
     * (the first trade told), 6 bytes (a TEXT whose FAULT is 2), 7 NOTHING.
     */
    static UncrossedBook rich() {
        UncrossedBook x = opened();
        x.limit(0, SELL, 5, 510, 0);
        x.hidden(1, BUY, 20, 490, 6);
        x.market(2, SELL, 2);
        x.pegged(3, BUY, 7, 1);
        x.halt(4, BUY, 8, 600);
        x.limit(5, BUY, 3, 480, 1);
        x.limit(6, SELL, 1, 490, 0);
        putRow(x, 0, 0, 5, 6, 7);
        x.show(1, 1);
        putRow(x, 2, 1, 8, 9, 10);
        write(x, 4, 0, "a+1@1");
        putRow(x, 5, 2, 1, NUMBER_OF_MARKET, 490, 2);
        write(x, 6, 0, "a+x");
        x.read(6);
        x.rule(1);
        x.seed(77);
        return x;
    }

    /** The same, CLOSED again. */
    static UncrossedBook richAuction() {
        UncrossedBook x = rich();
        x.close();
        return x;
    }

    /** All 60 ORDERS are there: one RESTS on each SIDE, the others are GONE. */
    static UncrossedBook full() {
        UncrossedBook x = withOrders(58);
        x.limit(1, BUY, 5, 400, 0);
        x.limit(2, SELL, 5, 600, 0);
        x.uncross();
        return x;
    }

    static void write(UncrossedBook x, int s, int sort, String text) {
        x.row(s, sort, text.length());
        for (int i = 0; i < text.length(); i++) {
            x.set(s, i, text.charAt(i));
        }
    }

    static int readText(UncrossedBook x, String text) {
        write(x, 7, 0, text);
        return x.read(7);
    }

    static void putRow(UncrossedBook x, int s, int sort, long... v) {
        x.row(s, sort, v.length);
        for (int i = 0; i < v.length; i++) {
            x.set(s, i, v[i]);
        }
    }

    static long[] elements(UncrossedBook x, int s, int n) {
        long[] all = new long[n];
        for (int i = 0; i < n; i++) {
            all[i] = x.element(s, i);
        }
        return all;
    }

    /** LEFT, STATE, PRICE, VISIBLE, what it traded. */
    static long[] order(UncrossedBook x, int o) {
        return new long[] {x.orderOf(o, LEFT), x.orderOf(o, STATE), x.orderOf(o, PRICE),
            x.orderOf(o, VISIBLE), x.orderOf(o, TRADED)};
    }

    static long[] trade(UncrossedBook x, int i) {
        return new long[] {x.trade(i, 0), x.trade(i, 1), x.trade(i, 2), x.trade(i, 3)};
    }

    /** All by RANK. */
    static long[] line(UncrossedBook x, int side) {
        long[] all = new long[60];
        int n = 0;
        while (n < all.length && x.rank(side, n) != UncrossedBook.NONE) {
            all[n] = x.rank(side, n);
            n++;
        }
        return java.util.Arrays.copyOf(all, n);
    }

    /** How many refusals there were, by -1 to -7. */
    static long[] refusals(UncrossedBook x) {
        long[] all = new long[7];
        for (int i = 0; i < 7; i++) {
            all[i] = x.status(11 + i);
        }
        return all;
    }
}
