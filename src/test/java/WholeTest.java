/** Promises 32 to 36: draws, seed, image, restore, status. */
public final class WholeTest {
    private WholeTest() {
    }

    public static void main(String[] args) {
        draws();
        drawsGoIn();
        drawsWithoutRoom();
        drawsRefusals();
        seed();
        image();
        imageOfAll();
        imageKeeps();
        restoreShelves();
        restoreRefusals();
        status();
        Due.end();
    }

    /** The next SEED. */
    private static int after(int seed) {
        return (int) (seed * 1103515245L + 12345);
    }

    private static int draw(int seed, int n) {
        return (int) (((seed & 0xffffffffL) >> 16) % n);
    }

    private static void drawsFrom(int seed) {
        UncrossedBook x = new UncrossedBook();
        x.seed(seed);
        Due.is("32: how many came", x.draws(20), 20);
        int now = seed;
        for (int o = 0; o < 20; o++) {
            int[] drawn = new int[4];
            int[] below = {8, 2, 20, 21};
            for (int i = 0; i < 4; i++) {
                now = after(now);
                drawn[i] = draw(now, below[i]);
            }
            Due.is("32: kind", x.orderOf(o, 0), 1);
            Due.is("32: owner", x.orderOf(o, 1), drawn[0]);
            Due.is("32: side", x.orderOf(o, 2), drawn[1]);
            Due.is("32: quantity", x.orderOf(o, 3), drawn[2] + 1);
            Due.is("32: price", x.orderOf(o, 5), drawn[3] + 490);
        }
        Due.is("32: the seed", x.status(6), now);
    }

    private static void draws() {
        UncrossedBook x = new UncrossedBook();
        Due.is("32: one", x.draws(1), 1);
        // The upper 16 bits of the SEEDS from 1 on: 16838, 38526, 10113, 50283.
        Due.is("32: owner, 16838 modulo 8", x.orderOf(0, 1), 6);
        Due.is("32: side, 38526 modulo 2", x.orderOf(0, 2), 0);
        Due.is("32: quantity, 10113 modulo 20, and 1", x.orderOf(0, 3), 14);
        Due.is("32: price, 50283 modulo 21, and 490", x.orderOf(0, 5), 499);
        Due.is("32: the seed", x.status(6), -999580867);
        drawsFrom(1);
        drawsFrom(0);
        drawsFrom(-1);
        drawsFrom(Integer.MIN_VALUE);
        drawsFrom(123456789);
    }

    private static void drawsGoIn() {
        UncrossedBook x = Books.opened();
        x.limit(0, 1, 999, 490, 0);
        x.limit(0, 0, 999, 489, 0);
        x.draws(20);
        Due.is("32: each buy went in", x.depth(0, 0, 0), 489);
        Due.is("32: and traded", x.trades() > 0 ? 1 : 0, 1);
        Due.is("32: ten more", x.draws(10), 10);
    }

    private static void drawsWithoutRoom() {
        UncrossedBook x = Books.withOrders(58);
        UncrossedBook y = new UncrossedBook();
        Due.is("32: two came", x.draws(5), 2);
        y.draws(5);
        Due.is("32: all were drawn", x.status(6), y.status(6));
        Due.is("32: none came", x.draws(1), 0);
        Due.is("32: sixty", x.status(0), 60);
        Due.are("32: nothing is refused", Books.refusals(x), 0, 0, 0, 0, 0, 0, 0);
    }

    private static void drawsRefusals() {
        UncrossedBook x = new UncrossedBook();
        Due.is("32: 0", x.draws(0), -6);
        Due.is("32: below", x.draws(-1), -6);
        Due.is("32: 21", x.draws(21), -6);
        Due.is("32: most", x.draws(Integer.MAX_VALUE), -6);
        Due.is("32: the seed stays", x.status(6), 1);
        Due.are("32: refusals", Books.refusals(x), 0, 0, 0, 0, 0, 4, 0);
    }

    private static void seed() {
        UncrossedBook x = new UncrossedBook();
        Due.is("33: at first", x.seed(Integer.MIN_VALUE), 1);
        Due.is("33: what it was", x.seed(-1), Integer.MIN_VALUE);
        Due.is("33: what it was", x.seed(0), -1);
        Due.is("33: status", x.status(6), 0);
        x.draws(1);
        Due.is("33: after draws", x.seed(5), after(after(after(after(0)))));
    }

    private static void image() {
        UncrossedBook x = new UncrossedBook();
        Due.is("34: of none", x.image(), 0);
        x.limit(0, 0, 5, 500, 0);
        x.limit(0, 0, 5, 500, 1);
        Due.is("35: as it was", x.restore(), 0);
        Due.is("35: no orders", x.status(0), 0);
        Due.is("35: numbers from 0", x.limit(1, 0, 5, 500, 0), 0);
        x.limit(0, 0, 5, 500, 1);
        Due.is("34: how many orders", x.image(), 2);
        Due.is("35: how many orders", x.restore(), 2);
    }

    private static void imageOfAll() {
        UncrossedBook x = Books.opened();
        x.hidden(0, 0, 20, 500, 4);
        x.limit(1, 0, 5, 500, 0);
        x.pegged(2, 0, 5, 1);
        x.halt(3, 1, 5, 490);
        x.market(4, 1, 3);
        x.rule(2);
        x.seed(77);
        x.image();
        x.market(4, 1, 3);
        x.amend(1, 9, 501);
        x.amend(3, 9, 480);
        x.cancel(2);
        x.limit(5, 1, 9, 400, 0);
        x.close();
        x.rule(1);
        x.seed(5);
        Due.is("35: orders", x.restore(), 4);
        Due.are("35: hidden", Books.order(x, 0), 17, Books.RESTING, 500, 1, 3);
        Due.are("35: limit", Books.order(x, 1), 5, Books.RESTING, 500, 5, 0);
        Due.are("35: pegged", Books.order(x, 2), 5, Books.RESTING, 499, 5, 0);
        Due.are("35: stop", Books.order(x, 3), 5, Books.WAITING, 490, 0, 0);
        Due.are("35: times", Books.line(x, 0), 0, 1, 2);
        Due.is("35: trades", x.trades(), 1);
        Due.is("35: trade", x.trade(1, 0), -5);
        Due.is("35: position", x.position(4), 999997);
        Due.is("35: cash", x.cash(4), 1000001500);
        Due.is("35: phase", x.status(3), 1);
        Due.is("35: rule", x.status(4), 2);
        Due.is("35: last", x.status(5), 500);
        Due.is("35: seed", x.status(6), 77);
        x.market(4, 1, 1);
        Due.are("35: times go on", Books.line(x, 0), 1, 0, 2);
        Due.are("35: the show is kept", Books.order(x, 0), 16, Books.RESTING, 500, 4, 4);
    }

    private static void imageKeeps() {
        UncrossedBook x = new UncrossedBook();
        x.limit(0, 0, 5, 500, 0);
        x.row(0, 0, 1);
        x.set(0, 0, 3);
        x.image();
        x.set(0, 0, 4);
        x.cancel(9);
        x.limit(0, 0, 5, 500, 0);
        x.restore();
        Due.is("35: not the rows", x.element(0, 0), 4);
        Due.is("35: not the refusals", x.status(11), 1);
        x.amend(0, 1, 1);
        Due.is("35: again", x.restore(), 1);
        Due.are("35: the same image", Books.order(x, 0), 5, Books.RESTING, 500, 5, 0);
        x.limit(0, 0, 6, 500, 0);
        Due.is("34: a later one", x.image(), 2);
        x.limit(0, 0, 6, 500, 0);
        Due.is("35: takes its place", x.restore(), 2);
        x.uncross();
        x.limit(1, 1, 5, 500, 0);
        x.restore();
        Due.is("35: no trades", x.trades(), 0);
        Due.is("35: no position", x.position(1), 1000000);
        Due.is("35: no last", x.status(5), 0);
    }

    private static void restoreShelves() {
        UncrossedBook x = new UncrossedBook();
        x.limit(0, 0, 5, 500, 0);
        x.image();
        x.limit(0, 0, 6, 501, 0);
        x.amend(0, 3, 499);
        x.show(0, 0);
        x.show(1, 1);
        x.row(2, 1, 2);
        x.restore();
        Due.is("35: the order of that number", x.holds(0), 0);
        x.limit(0, 0, 6, 501, 0);
        x.show(0, 1);
        x.restore();
        Due.is("35: the first shelf too", x.holds(0), -1);
        x.show(0, 0);
        Due.is("35: as it was", x.says(0, 0), 5);
        Due.is("35: nothing", x.holds(1), -1);
        Due.is("35: nothing", x.says(1, 0), -3);
        Due.is("35: a row stays", x.holds(2), 101);
        x.show(0, -1);
        x.restore();
        Due.is("35: no shelf is taken", x.holds(0), -1);
        x.limit(0, 0, 6, 501, 0);
        Due.is("35: it stays nothing", x.holds(1), -1);
    }

    private static void restoreRefusals() {
        UncrossedBook x = new UncrossedBook();
        Due.is("35: no image", x.restore(), -6);
        x.image();
        Due.is("35: an image of nothing", x.restore(), 0);
        Due.are("35: refusals", Books.refusals(x), 0, 0, 0, 0, 0, 1, 0);
    }

    private static void status() {
        UncrossedBook x = Books.openedAt(500);
        x.limit(0, 0, 5, 490, 0);
        x.pegged(0, 0, 5, 1);
        x.halt(0, 0, 5, 510);
        x.halt(0, 0, 5, 510);
        x.halt(0, 0, 5, 510);
        x.rule(3);
        x.seed(42);
        x.cancel(1);
        int[] wants = {6, 1, 3, 1, 3, 500, 42, -1, -1, -1, -1};
        for (int what = 0; what < wants.length; what++) {
            Due.is("36: status(" + what + ")", x.status(what), wants[what]);
        }
        x.cancel(99);
        x.row(0, 0, -1);
        x.read(0);
        x.rule(9);
        Due.are("36: refusals", Books.refusals(x), 1, 0, 1, 1, 0, 1, 0);
        Due.is("36: 18", x.status(18), -1);
        Due.is("36: -1", x.status(-1), -1);
        Due.is("36: least", x.status(Integer.MIN_VALUE), -1);
        Due.is("36: most", x.status(Integer.MAX_VALUE), -1);
        Due.are("36: none of these is refused", Books.refusals(x), 1, 0, 1, 1, 0, 1, 0);
    }
}
