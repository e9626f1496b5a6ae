/** What the tests do with a book again and again. */
final class Books {
    static final int BUY = 0;
    static final int SELL = 1;
    static final int LEFT = 3;
    static final int STATE = 4;
    static final int PRICE = 5;
    static final int VISIBLE = 6;
    static final int TRADED = 7;
    static final int WAITING = 0;
    static final int RESTING = 1;
    static final int FILLED = 2;
    static final int GONE = 3;

    private Books() {
    }

    /** A new one that is OPEN. */
    static UncrossedBook opened() {
        UncrossedBook x = new UncrossedBook();
        x.uncross();
        return x;
    }

    /** One that is OPEN, and whose LAST is this. */
    static UncrossedBook openedAt(int last) {
        UncrossedBook x = opened();
        x.limit(7, SELL, 1, last, 0);
        x.market(6, BUY, 1);
        return x;
    }

    /** One with so many ORDERS, that are GONE. */
    static UncrossedBook withOrders(int n) {
        UncrossedBook x = new UncrossedBook();
        for (int i = 0; i < n; i++) {
            x.limit(0, BUY, 1, 1, 1);
        }
        return x;
    }

    static void write(UncrossedBook x, int s, int sort, String text) {
        x.row(s, sort, text.length());
        for (int i = 0; i < text.length(); i++) {
            x.set(s, i, text.charAt(i));
        }
    }

    static int readText(UncrossedBook x, String text) {
        write(x, 7, 0, text);
        return x.read(7);
    }

    static void putRow(UncrossedBook x, int s, int sort, long... v) {
        x.row(s, sort, v.length);
        for (int i = 0; i < v.length; i++) {
            x.set(s, i, v[i]);
        }
    }

    static long[] elements(UncrossedBook x, int s, int n) {
        long[] all = new long[n];
        for (int i = 0; i < n; i++) {
            all[i] = x.element(s, i);
        }
        return all;
    }

    /** LEFT, STATE, PRICE, VISIBLE, what it traded. */
    static long[] order(UncrossedBook x, int o) {
        return new long[] {x.orderOf(o, LEFT), x.orderOf(o, STATE), x.orderOf(o, PRICE),
            x.orderOf(o, VISIBLE), x.orderOf(o, TRADED)};
    }

    static long[] trade(UncrossedBook x, int i) {
        return new long[] {x.trade(i, 0), x.trade(i, 1), x.trade(i, 2), x.trade(i, 3)};
    }

    /** All by RANK. */
    static long[] line(UncrossedBook x, int side) {
        long[] all = new long[60];
        int n = 0;
        while (n < all.length && x.rank(side, n) != UncrossedBook.NONE) {
            all[n] = x.rank(side, n);
            n++;
        }
        return java.util.Arrays.copyOf(all, n);
    }

    /** How many refusals there were, by -1 to -7. */
    static long[] refusals(UncrossedBook x) {
        long[] all = new long[7];
        for (int i = 0; i < 7; i++) {
            all[i] = x.status(11 + i);
        }
        return all;
    }
}
