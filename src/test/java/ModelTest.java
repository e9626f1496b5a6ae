import java.util.Random;

/** Runs of 512 drawn calls, each answered as the Model answers it. */
public final class ModelTest {
    private static final int RUNS = 1500;
    private static final int CALLS = 512;

    private final Random random;
    private final UncrossedBook x = new UncrossedBook();
    private final Model m = new Model();
    private final StringBuilder told = new StringBuilder();
    /** In a tame run few numbers are off, so that much comes of the orders. */
    private final boolean tame;
    private final int middle;
    private final int spread;

    private ModelTest(int run) {
        random = new Random(run);
        tame = run % 4 != 0;
        int[] middles = {500, 3, 996, 120};
        middle = middles[run % 3 == 0 ? random.nextInt(4) : 0];
        spread = 1 + random.nextInt(8);
    }

    public static void main(String[] args) {
        for (int run = 0; run < RUNS; run++) {
            if (!new ModelTest(run).answersAsTheModel()) {
                Due.is("run " + run, 0, 1);
                break;
            }
            Due.is("run " + run, 1, 1);
        }
        Due.end();
    }

    private boolean answersAsTheModel() {
        for (int call = 0; call < CALLS; call++) {
            if (!oneCall()) {
                System.out.println(told);
                return false;
            }
            if (random.nextInt(40) == 0 && !allIsTheSame()) {
                System.out.println(told);
                return false;
            }
        }
        return allIsTheSame();
    }

    private boolean same(String call, long got, long want, long... with) {
        told.append(call);
        for (long v : with) {
            told.append(' ').append(v);
        }
        told.append(" = ").append(got);
        if (got != want) {
            told.append(", the model answers ").append(want);
        }
        told.append('\n');
        return got == want;
    }

    private boolean allIsTheSame() {
        boolean same = true;
        int orders = x.status(0);
        for (int o = 0; o < orders; o++) {
            for (int what = 0; what < 8; what++) {
                same &= x.orderOf(o, what) == m.orderOf(o, what);
            }
            same &= x.ahead(o) == m.ahead(o);
        }
        for (int side = 0; side < 2; side++) {
            for (int i = 0; i < 60; i++) {
                same &= x.rank(side, i) == m.rank(side, i);
            }
            for (int k = 0; k < 20; k++) {
                same &= x.depth(side, k, 0) == m.depth(side, k, 0);
                same &= x.depth(side, k, 1) == m.depth(side, k, 1);
            }
        }
        for (int i = 0; i < Math.min(200, x.trades()); i++) {
            for (int what = 0; what < 4; what++) {
                same &= x.trade(i, what) == m.trade(i, what);
            }
        }
        for (int owner = 0; owner < 8; owner++) {
            same &= x.position(owner) == m.position(owner) && x.cash(owner) == m.cash(owner);
            same &= x.holds(owner) == m.holds(owner);
        }
        for (int what = 0; what < 19; what++) {
            same &= x.status(what) == m.status(what);
        }
        return same("all", same ? 1 : 0, 1);
    }

    /** A number from least to most; at times another. */
    private int some(int least, int most) {
        if (random.nextInt(tame ? 400 : 25) == 0) {
            int[] odd = {least - 1, most + 1, -1, 0, Integer.MIN_VALUE, Integer.MAX_VALUE};
            return odd[random.nextInt(odd.length)];
        }
        return least + random.nextInt(most - least + 1);
    }

    private int price() {
        return random.nextInt(60) == 0 ? some(1, 999)
                : Math.max(1, Math.min(999, some(middle - spread, middle + spread)));
    }

    private int quantity() {
        return random.nextInt(20) == 0 ? some(1, 999) : some(1, 20);
    }

    private int owner() {
        return random.nextInt(8) == 0 ? some(0, 7) : some(0, 2);
    }

    private int order() {
        return some(0, Math.max(0, x.status(0) - 1));
    }

    private boolean oneCall() {
        int pick = random.nextInt(100);
        if (pick < 45) {
            return comes(pick);
        }
        if (pick < 65) {
            return changes(pick);
        }
        if (pick < 85) {
            return shelves(pick);
        }
        return tells(pick);
    }

    private boolean comes(int pick) {
        int owner = owner();
        int side = some(0, 1);
        int quantity = quantity();
        int price = price();
        if (pick < 17) {
            int how = random.nextInt(3) == 0 ? some(0, 2) : 0;
            return same("limit", x.limit(owner, side, quantity, price, how),
                    m.limit(owner, side, quantity, price, how), owner, side, quantity, price, how);
        }
        if (pick < 25) {
            int show = random.nextInt(10) == 0 ? some(1, 999) : some(1, 6);
            return same("hidden", x.hidden(owner, side, quantity, price, show),
                    m.hidden(owner, side, quantity, price, show), owner, side, quantity, price, show);
        }
        if (pick < 30) {
            int offset = random.nextInt(10) == 0 ? some(0, 99) : some(0, 4);
            return same("pegged", x.pegged(owner, side, quantity, offset),
                    m.pegged(owner, side, quantity, offset), owner, side, quantity, offset);
        }
        if (pick < 36) {
            return same("halt", x.halt(owner, side, quantity, price),
                    m.halt(owner, side, quantity, price), owner, side, quantity, price);
        }
        if (pick < 43) {
            return same("market", x.market(owner, side, quantity),
                    m.market(owner, side, quantity), owner, side, quantity);
        }
        int n = random.nextInt(4) == 0 ? some(1, 20) : some(1, 3);
        return same("draws", x.draws(n), m.draws(n), n);
    }

    private boolean changes(int pick) {
        int o = order();
        if (pick < 48) {
            return same("cancel", x.cancel(o), m.cancel(o), o);
        }
        if (pick < 55) {
            int quantity = quantity();
            boolean samePrice = random.nextBoolean() && o >= 0 && o < x.status(0);
            int price = samePrice ? Math.max(1, x.orderOf(o, Books.PRICE)) : price();
            return same("amend", x.amend(o, quantity, price), m.amend(o, quantity, price),
                    o, quantity, price);
        }
        if (pick < 58) {
            int v = some(0, 3);
            return same("rule", x.rule(v), m.rule(v), v);
        }
        if (pick < 60) {
            return same("uncross", x.uncross(), m.uncross());
        }
        if (pick < 61) {
            return same("close", x.close(), m.close());
        }
        if (pick < 62) {
            int what = some(0, 1);
            return same("crossing", x.crossing(what), m.crossing(what), what);
        }
        if (pick < 63) {
            return same("image", x.image(), m.image());
        }
        if (pick < 64) {
            return same("restore", x.restore(), m.restore());
        }
        int v = random.nextInt();
        return same("seed", x.seed(v), m.seed(v), v);
    }

    private boolean shelves(int pick) {
        int s = some(0, 3);
        if (pick < 67) {
            int sort = some(0, 3);
            int n = random.nextInt(4) == 0 ? some(0, 160) : some(0, 12);
            return same("row", x.row(s, sort, n), m.row(s, sort, n), s, sort, n);
        }
        if (pick < 70) {
            int i = some(0, 12);
            long v = random.nextLong() >> random.nextInt(64);
            return same("set", x.set(s, i, v), m.set(s, i, v), s, i, v);
        }
        if (pick < 72) {
            int q = some(0, 3);
            int i = some(0, 6);
            int j = some(0, 6);
            int n = some(0, 6);
            return same("copy", x.copy(s, q, i, j, n), m.copy(s, q, i, j, n), s, q, i, j, n);
        }
        if (pick < 74) {
            int i = some(0, 12);
            return same("element", x.element(s, i), m.element(s, i), s, i);
        }
        if (pick < 76) {
            int o = random.nextInt(3) == 0 ? -1 : order();
            return same("show", x.show(s, o), m.show(s, o), s, o);
        }
        if (pick < 79) {
            int kind = some(0, 4);
            return same("says", x.says(s, kind), m.says(s, kind), s, kind);
        }
        if (pick < 80) {
            return same("read", x.read(s), m.read(s), s);
        }
        return pick < 83 ? readsText() : judges();
    }

    private String item() {
        String item = "" + "abcdefgh".charAt(random.nextInt(8)) + "+-".charAt(random.nextInt(2))
                + random.nextInt(30) + "@" + (middle + random.nextInt(3));
        return random.nextBoolean() ? item : item + "h" + random.nextInt(12);
    }

    private boolean readsText() {
        StringBuilder text = new StringBuilder(item());
        for (int n = random.nextInt(3); n > 0; n--) {
            text.append(';').append(item());
        }
        if (random.nextInt(3) == 0) {
            int at = random.nextInt(text.length());
            text.setCharAt(at, "abhi+-;@0019/: x".charAt(random.nextInt(16)));
        }
        if (random.nextInt(6) == 0) {
            text.setLength(random.nextInt(text.length()));
        }
        int sort = random.nextInt(4);
        Books.write(x, 5, sort, text.toString());
        m.row(5, sort, text.length());
        for (int i = 0; i < text.length(); i++) {
            m.set(5, i, text.charAt(i));
        }
        told.append(text).append('\n');
        return same("read", x.read(5), m.read(5)) && same("fault", x.fault(), m.fault());
    }

    private boolean judges() {
        int n = Math.min(40, x.trades());
        int sort = 1 + random.nextInt(3);
        x.row(6, sort, 4 * n);
        m.row(6, sort, 4 * n);
        int off = random.nextInt(8 * n + 1);
        for (int i = 0; i < 4 * n; i++) {
            long v = x.trade(i / 4, i % 4) + (i == off ? 1 : 0);
            m.trade(i / 4, i % 4);
            x.set(6, i, v);
            m.set(6, i, v);
        }
        int count = some(0, Math.max(0, n));
        return same("judge", x.judge(6, count), m.judge(6, count), count);
    }

    private boolean tells(int pick) {
        int side = some(0, 1);
        if (pick < 87) {
            int o = order();
            int what = some(0, 7);
            return same("orderOf", x.orderOf(o, what), m.orderOf(o, what), o, what);
        }
        if (pick < 89) {
            int i = some(0, 20);
            return same("rank", x.rank(side, i), m.rank(side, i), side, i);
        }
        if (pick < 91) {
            int k = some(0, 5);
            int what = some(0, 1);
            return same("depth", x.depth(side, k, what), m.depth(side, k, what), side, k, what);
        }
        if (pick < 92) {
            int o = order();
            return same("ahead", x.ahead(o), m.ahead(o), o);
        }
        if (pick < 95) {
            int quantity = random.nextInt(5) == 0 ? some(1, 99999) : some(1, 100);
            return same("sweep", x.sweep(side, quantity), m.sweep(side, quantity), side, quantity);
        }
        if (pick < 97) {
            int i = some(0, 30);
            int what = some(0, 3);
            return same("trade", x.trade(i, what), m.trade(i, what), i, what);
        }
        int owner = some(0, 7);
        return same("position", x.position(owner), m.position(owner), owner)
                && same("cash", x.cash(owner), m.cash(owner), owner)
                && same("holds", x.holds(owner), m.holds(owner), owner)
                && same("trades", x.trades(), m.trades())
                && same("status", x.status(owner + 9), m.status(owner + 9), owner + 9);
    }
}
