/** Promises 1 to 8: a new object, ROWS and SHELVES. */
public final class ShelfTest {
    private ShelfTest() {
    }

    public static void main(String[] args) {
        newObject();
        row();
        rowRefusals();
        set();
        setRefusals();
        copy();
        copyRefusals();
        element();
        show();
        holds();
        says();
        saysRefusals();
        Due.end();
    }

    private static void newObject() {
        UncrossedBook x = new UncrossedBook();
        Due.is("1: NONE", UncrossedBook.NONE, -1);
        for (int what = 0; what < 20; what++) {
            boolean counts = what < 7 || (what >= 11 && what <= 17);
            Due.is("1: status(" + what + ")", x.status(what), what == 6 ? 1 : counts ? 0 : -1);
        }
        for (int s = 0; s < 8; s++) {
            Due.is("1: holds", x.holds(s), -1);
            Due.is("1: position", x.position(s), 1000000);
            Due.is("1: cash", x.cash(s), 1000000000);
        }
        Due.is("1: trades", x.trades(), 0);
        Due.is("1: fault", x.fault(), -1);
        Due.is("1: rank", x.rank(0, 0), -1);
        Due.is("1: no image", x.restore(), -6);
    }

    private static void row() {
        UncrossedBook x = new UncrossedBook();
        for (int sort = 0; sort < 4; sort++) {
            Due.is("2: row", x.row(sort, sort, 3), 1);
            Due.is("2: holds", x.holds(sort), 100 + sort);
        }
        Due.is("2: row of none", x.row(7, 3, 0), 1);
        Due.is("2: none there", x.set(7, 0, 1), -5);
        Due.is("2: row of 160", x.row(7, 3, 160), 1);
        Due.is("2: the last", x.set(7, 159, 5), 1);
        Due.is("2: no more", x.set(7, 160, 5), -5);
        Due.is("2: row anew", x.row(7, 3, 160), 1);
        Due.is("2: 0 at first", x.element(7, 159), 0);
        x.limit(0, 0, 1, 1, 0);
        x.show(7, 0);
        Due.is("2: row for an order", x.row(7, 2, 1), 1);
        Due.is("2: holds the row", x.holds(7), 102);
    }

    private static void rowRefusals() {
        UncrossedBook x = new UncrossedBook();
        Books.putRow(x, 0, 1, 7, 8);
        Due.is("2: shelf -1", x.row(-1, 9, -1), -1);
        Due.is("2: shelf 8", x.row(8, 0, 1), -1);
        Due.is("2: below first", x.row(0, 9, -1), -4);
        Due.is("2: least", x.row(0, 0, Integer.MIN_VALUE), -4);
        Due.is("2: sort -1", x.row(0, -1, 161), -6);
        Due.is("2: sort 4", x.row(0, 4, 1), -6);
        Due.is("2: 161", x.row(0, 0, 161), -7);
        Due.is("2: most", x.row(0, 0, Integer.MAX_VALUE), -7);
        Due.is("2: as it was", x.holds(0), 101);
        Due.is("2: as it was", x.element(0, 1), 8);
        Due.are("2: refusals", Books.refusals(x), 2, 0, 0, 2, 0, 2, 2);
    }

    private static void set() {
        UncrossedBook x = new UncrossedBook();
        long[] told = {0x1234567890abcdefL, -1, 128, 32768, 2147483648L, Long.MIN_VALUE};
        Books.putRow(x, 0, 0, told);
        Books.putRow(x, 1, 1, told);
        Books.putRow(x, 2, 2, told);
        Books.putRow(x, 3, 3, told);
        Due.are("3: bytes", Books.elements(x, 0, 6), (byte) 0xef, -1, -128, 0, 0, 0);
        Due.are("3: shorts", Books.elements(x, 1, 6), (short) 0xcdef, -1, 128, -32768, 0, 0);
        Due.are("3: ints", Books.elements(x, 2, 6), 0x90abcdef, -1, 128, 32768, -2147483648, 0);
        Due.are("3: longs", Books.elements(x, 3, 6), told);
        Due.is("3: set", x.set(3, 5, 4), 1);
        Due.is("3: what is set", x.element(3, 5), 4);
    }

    private static void setRefusals() {
        UncrossedBook x = new UncrossedBook();
        x.limit(0, 0, 1, 1, 0);
        x.show(1, 0);
        x.row(0, 0, 2);
        Due.is("3: shelf", x.set(-1, 0, 0), -1);
        Due.is("3: shelf", x.set(8, 0, 0), -1);
        Due.is("3: order", x.set(1, -1, 0), -2);
        Due.is("3: nothing", x.set(2, -1, 0), -3);
        Due.is("3: i below", x.set(0, -1, 0), -5);
        Due.is("3: i above", x.set(0, 2, 0), -5);
        Due.is("3: i least", x.set(0, Integer.MIN_VALUE, 0), -5);
        Due.are("3: refusals", Books.refusals(x), 2, 1, 1, 0, 3, 0, 0);
    }

    private static void copy() {
        UncrossedBook x = new UncrossedBook();
        Books.putRow(x, 0, 2, 1, 2, 3, 4, 5);
        Books.putRow(x, 1, 2, 6, 7, 8);
        Due.is("4: copy", x.copy(0, 1, 3, 1, 2), 1);
        Due.are("4: copied", Books.elements(x, 1, 3), 6, 4, 5);
        Due.are("4: from stays", Books.elements(x, 0, 5), 1, 2, 3, 4, 5);
        Due.is("4: in one, up", x.copy(0, 0, 0, 1, 4), 1);
        Due.are("4: as they were", Books.elements(x, 0, 5), 1, 1, 2, 3, 4);
        Due.is("4: in one, down", x.copy(0, 0, 1, 0, 4), 1);
        Due.are("4: as they were", Books.elements(x, 0, 5), 1, 2, 3, 4, 4);
        Due.is("4: none at the end", x.copy(0, 1, 5, 3, 0), 1);
        Due.is("4: all", x.copy(1, 0, 0, 2, 3), 1);
        Due.are("4: all copied", Books.elements(x, 0, 5), 1, 2, 6, 4, 5);
    }

    private static void copyRefusals() {
        UncrossedBook x = new UncrossedBook();
        x.limit(0, 0, 1, 1, 0);
        Books.putRow(x, 0, 2, 1, 2, 3);
        Books.putRow(x, 1, 2, 4, 5, 6);
        Books.putRow(x, 2, 1, 7, 8, 9);
        x.show(3, 0);
        Due.is("4: from -1", x.copy(-1, 3, 0, 0, 1), -1);
        Due.is("4: to 8", x.copy(3, 8, 0, 0, 1), -1);
        Due.is("4: from an order", x.copy(3, 4, 0, 0, 1), -2);
        Due.is("4: to an order", x.copy(4, 3, 0, 0, 1), -2);
        Due.is("4: two sorts", x.copy(0, 2, 0, 0, -1), -2);
        Due.is("4: from nothing", x.copy(4, 2, 0, 0, -1), -3);
        Due.is("4: to nothing", x.copy(2, 4, 0, 0, -1), -3);
        Due.is("4: n below", x.copy(0, 1, -1, 0, -1), -4);
        Due.is("4: i below", x.copy(0, 1, -1, 0, 1), -5);
        Due.is("4: j below", x.copy(0, 1, 0, -1, 1), -5);
        Due.is("4: end of i", x.copy(0, 1, 1, 0, 3), -5);
        Due.is("4: end of j", x.copy(0, 1, 0, 1, 3), -5);
        Due.is("4: i beyond, none", x.copy(0, 1, 4, 0, 0), -5);
        Due.is("4: most", x.copy(0, 1, 1, 1, Integer.MAX_VALUE), -5);
        Due.is("4: most i", x.copy(0, 1, Integer.MAX_VALUE, 0, 1), -5);
        Due.are("4: nothing changed", Books.elements(x, 1, 3), 4, 5, 6);
        Due.are("4: refusals", Books.refusals(x), 2, 3, 2, 1, 7, 0, 0);
    }

    private static void element() {
        UncrossedBook x = new UncrossedBook();
        x.limit(0, 0, 1, 1, 0);
        x.show(1, 0);
        Books.putRow(x, 0, 3, Long.MAX_VALUE, Long.MIN_VALUE);
        Due.is("5: first", x.element(0, 0), Long.MAX_VALUE);
        Due.is("5: last", x.element(0, 1), Long.MIN_VALUE);
        Due.is("5: beyond", x.element(0, 2), 0);
        Due.is("5: below", x.element(0, -1), 0);
        Due.is("5: no shelf", x.element(-1, 0), 0);
        Due.is("5: no shelf", x.element(8, 0), 0);
        Due.is("5: an order", x.element(1, 0), 0);
        Due.is("5: nothing", x.element(2, 0), 0);
        Due.are("5: nothing is refused", Books.refusals(x), 0, 0, 0, 0, 0, 0, 0);
    }

    private static void show() {
        UncrossedBook x = new UncrossedBook();
        x.limit(0, 0, 5, 10, 0);
        x.limit(0, 0, 6, 11, 0);
        Due.is("6: show", x.show(0, 1), 1);
        Due.is("6: holds", x.holds(0), 1);
        Due.is("6: another", x.show(0, 0), 1);
        Due.is("6: holds", x.holds(0), 0);
        Books.putRow(x, 1, 0, 5, 6, 7);
        Due.is("6: for a row", x.show(1, 1), 1);
        Due.is("6: holds", x.holds(1), 1);
        Due.is("6: the row is gone", x.element(1, 0), 0);
        Due.is("6: it says", x.says(1, 1), 11);
        Books.putRow(x, 1, 0, 5, 6, 7);
        Due.is("6: nothing", x.show(1, -1), 0);
        Due.is("6: the row is gone", x.element(1, 0), 0);
        Due.is("6: holds nothing", x.holds(1), -1);
        Due.is("6: no row any more", x.set(1, 0, 1), -3);
        Due.is("6: shelf first", x.show(-1, -1), -1);
        Due.is("6: shelf", x.show(8, 0), -1);
        Due.is("6: order", x.show(0, 2), -1);
        Due.is("6: order below", x.show(0, -2), -1);
        Due.is("6: as it was", x.holds(0), 0);
        Due.are("6: refusals", Books.refusals(x), 4, 0, 1, 0, 0, 0, 0);
    }

    private static void holds() {
        UncrossedBook x = Books.withOrders(60);
        Due.is("7: nothing", x.holds(0), -1);
        Due.is("7: no shelf", x.holds(-1), -1);
        Due.is("7: no shelf", x.holds(8), -1);
        x.show(7, 59);
        Due.is("7: order", x.holds(7), 59);
        x.row(7, 3, 0);
        Due.is("7: row", x.holds(7), 103);
        x.show(7, 0);
        Due.is("7: order again", x.holds(7), 0);
        Due.are("7: nothing is refused", Books.refusals(x), 0, 0, 0, 0, 0, 0, 0);
    }

    private static void says() {
        UncrossedBook x = new UncrossedBook();
        x.limit(0, 0, 5, 500, 0);
        x.hidden(1, 0, 20, 499, 6);
        x.pegged(2, 0, 7, 3);
        x.halt(3, 0, 8, 510);
        x.pegged(2, 1, 9, 3);
        for (int o = 0; o < 5; o++) {
            x.show(o, o);
        }
        Due.is("8: limit, left", x.says(0, 0), 5);
        Due.is("8: limit, price", x.says(0, 1), 500);
        Due.is("8: hidden, left", x.says(1, 0), 20);
        Due.is("8: hidden, price", x.says(1, 1), 499);
        Due.is("8: hidden, visible", x.says(1, 2), 6);
        Due.is("8: pegged, left", x.says(2, 0), 7);
        Due.is("8: pegged, price", x.says(2, 3), 497);
        Due.is("8: stop, left", x.says(3, 0), 8);
        Due.is("8: stop, trigger", x.says(3, 4), 510);
        Due.is("8: pegged without a price", x.says(4, 3), 0);
        x.cancel(1);
        x.cancel(2);
        Due.is("8: hidden, gone", x.says(1, 2), 0);
        Due.is("8: price of one gone", x.says(1, 1), 499);
        Due.is("8: pegged, gone", x.says(2, 3), 0);
        Due.is("8: left of one gone", x.says(2, 0), 7);
    }

    private static void saysRefusals() {
        UncrossedBook x = new UncrossedBook();
        x.limit(0, 0, 5, 500, 0);
        x.hidden(1, 0, 20, 499, 6);
        x.pegged(2, 0, 7, 3);
        x.halt(3, 0, 8, 510);
        for (int o = 0; o < 4; o++) {
            x.show(o, o);
        }
        x.row(4, 0, 1);
        int[] kinds = {1, 2, 3, 4};
        for (int o = 0; o < 4; o++) {
            for (int kind = 1; kind < 5; kind++) {
                boolean under = kind == kinds[o] || (kind == 1 && o == 1);
                Due.is("8: " + o + " as " + kind, x.says(o, kind) == -2 ? 1 : 0, under ? 0 : 1);
            }
        }
        Due.is("8: shelf", x.says(-1, 0), -1);
        Due.is("8: shelf", x.says(8, 0), -1);
        Due.is("8: kind", x.says(4, -1), -1);
        Due.is("8: kind", x.says(5, 5), -1);
        Due.is("8: row", x.says(4, 0), -2);
        Due.is("8: nothing", x.says(5, 4), -3);
        Due.are("8: refusals", Books.refusals(x), 4, 12, 1, 0, 0, 0, 0);
    }
}
