import java.util.ArrayList;
import java.util.Arrays;
import java.util.Comparator;
import java.util.List;

/**
 * The document once more, written for plainness and with the Java library:
 * every order is ranked anew at every step, every price of an auction is tried.
 */
final class Model {
    static final int NONE = -1;

    /** What comes: an ORDER, or a MARKET one. */
    private static final class Party implements Cloneable {
        int number = NONE;
        int kind;
        int owner;
        int side;
        int left;
        String state = "coming";
        int traded;
        int price;
        int show;
        int offset;
        int trigger;
        int visible;
        long time;

        Party copy() {
            try {
                return (Party) super.clone();
            } catch (CloneNotSupportedException e) {
                throw new IllegalStateException(e);
            }
        }
    }

    /** All that THE IMAGE has. */
    private static final class State {
        List<Party> orders = new ArrayList<>();
        List<int[]> trades = new ArrayList<>();
        int[] bought = new int[8];
        int[] got = new int[8];
        boolean open;
        int rule;
        int last;
        int seed = 1;
        long clock;

        State copy() {
            State that = new State();
            for (Party order : orders) {
                that.orders.add(order.copy());
            }
            that.trades.addAll(trades);
            that.bought = bought.clone();
            that.got = got.clone();
            that.open = open;
            that.rule = rule;
            that.last = last;
            that.seed = seed;
            that.clock = clock;
            return that;
        }
    }

    private State now = new State();
    private State image;
    private final Object[] shelves = new Object[8];
    private final int[] sorts = new int[8];
    private final int[] refused = new int[8];
    private int fault = NONE;

    private int refuse(int reason) {
        refused[-reason % 10]++;
        return reason;
    }

    private static boolean in(int v, int least, int most) {
        return least <= v && v <= most;
    }

    private boolean isRow(int s) {
        return shelves[s] instanceof long[];
    }

    private long[] rowOf(int s) {
        return (long[]) shelves[s];
    }

    int row(int s, int sort, int n) {
        if (!in(s, 0, 7)) return refuse(-1);
        if (n < 0) return refuse(-4);
        if (!in(sort, 0, 3)) return refuse(-6);
        if (n > 160) return refuse(-7);
        shelves[s] = new long[n];
        sorts[s] = sort;
        return 1;
    }

    int set(int s, int i, long v) {
        if (!in(s, 0, 7)) return refuse(-1);
        if (shelves[s] instanceof Integer) return refuse(-2);
        if (shelves[s] == null) return refuse(-3);
        if (!in(i, 0, rowOf(s).length - 1)) return refuse(-5);
        int unused = 64 - (8 << sorts[s]);
        rowOf(s)[i] = v << unused >> unused;
        return 1;
    }

    int copy(int p, int q, int i, int j, int n) {
        if (!in(p, 0, 7) || !in(q, 0, 7)) return refuse(-1);
        if (shelves[p] instanceof Integer || shelves[q] instanceof Integer) return refuse(-2);
        if (isRow(p) && isRow(q) && sorts[p] != sorts[q]) return refuse(-2);
        if (shelves[p] == null || shelves[q] == null) return refuse(-3);
        if (n < 0) return refuse(-4);
        if (i < 0 || j < 0 || (long) i + n > rowOf(p).length || (long) j + n > rowOf(q).length) {
            return refuse(-5);
        }
        long[] before = Arrays.copyOfRange(rowOf(p), i, i + n);
        for (int k = 0; k < n; k++) {
            rowOf(q)[j + k] = before[k];
        }
        return 1;
    }

    long element(int s, int i) {
        return in(s, 0, 7) && isRow(s) && in(i, 0, rowOf(s).length - 1) ? rowOf(s)[i] : 0;
    }

    private Party order(int o) {
        return in(o, 0, now.orders.size() - 1) ? now.orders.get(o) : null;
    }

    int show(int s, int o) {
        if (!in(s, 0, 7) || (o != NONE && order(o) == null)) return refuse(-1);
        shelves[s] = o == NONE ? null : (Object) o;
        return o == NONE ? 0 : 1;
    }

    int holds(int s) {
        if (!in(s, 0, 7) || shelves[s] == null) return NONE;
        return isRow(s) ? 100 + sorts[s] : (Integer) shelves[s];
    }

    int says(int s, int kind) {
        if (!in(s, 0, 7) || !in(kind, 0, 4)) return refuse(-1);
        if (isRow(s)) return refuse(-2);
        if (shelves[s] == null) return refuse(-3);
        Party o = order((Integer) shelves[s]);
        int[][] under = {{0}, {0, 1}, {0, 1, 2}, {0, 3}, {0, 4}};
        boolean fits = false;
        for (int k : under[o.kind]) {
            fits |= k == kind;
        }
        if (!fits) return refuse(-2);
        switch (kind) {
            case 0: return o.left;
            case 1: return o.price;
            case 2: return rests(o) ? o.visible : 0;
            case 3: return priceOf(o);
            default: return o.trigger;
        }
    }

    private static boolean rests(Party o) {
        return o.state.equals("resting");
    }

    private int bestOf(int side) {
        int best = 0;
        for (Party o : now.orders) {
            if (rests(o) && o.side == side && (o.kind == 1 || o.kind == 2)) {
                boolean better = side == 0 ? o.price > best : o.price < best;
                if (best == 0 || better) {
                    best = o.price;
                }
            }
        }
        return best;
    }

    private int priceOf(Party o) {
        if (o.kind == 4) return o.trigger;
        if (o.kind != 3) return o.price;
        int best = bestOf(o.side);
        int p = o.side == 0 ? best - o.offset : best + o.offset;
        return !rests(o) || best == 0 || !in(p, 1, 999) ? 0 : p;
    }

    private static int visibleOf(Party o) {
        return !rests(o) ? 0 : o.kind == 2 ? o.visible : o.left;
    }

    private List<Party> ranked(int side) {
        List<Party> line = new ArrayList<>();
        for (Party o : now.orders) {
            if (rests(o) && o.side == side && priceOf(o) != 0) {
                line.add(o);
            }
        }
        Comparator<Party> byPrice = Comparator.comparingInt(this::priceOf);
        Comparator<Party> byRank = (side == 0 ? byPrice.reversed() : byPrice)
                .thenComparing((Party o) -> o.kind == 3)
                .thenComparing((Party o) -> o.time);
        line.sort(byRank);
        return line;
    }

    private void comeToRest(Party o) {
        o.state = "resting";
        o.time = now.clock++;
        if (o.kind == 2) {
            o.visible = Math.min(o.show, o.left);
        }
    }

    private void takeFrom(Party o, int quantity, boolean isTrade) {
        o.left -= quantity;
        if (isTrade) {
            o.traded += quantity;
        }
        if (o.left == 0) {
            o.state = isTrade ? "filled" : "gone";
        }
    }

    private void note(Party buy, Party sell, int price, int quantity) {
        now.trades.add(new int[] {buy.number, sell.number, price, quantity});
        now.last = price;
        now.bought[buy.owner] += quantity;
        now.bought[sell.owner] -= quantity;
        now.got[sell.owner] += price * quantity;
        now.got[buy.owner] -= price * quantity;
        takeFrom(buy, quantity, true);
        takeFrom(sell, quantity, true);
    }

    private void goIn(Party comer, int limit) {
        while (comer.left > 0) {
            List<Party> line = ranked(1 - comer.side);
            if (line.isEmpty()) return;
            Party first = line.get(0);
            int price = priceOf(first);
            if (limit != 0 && (comer.side == 0 ? price > limit : price < limit)) return;
            if (first.owner == comer.owner && now.rule == 1) {
                comer.state = "gone";
                return;
            }
            if (first.owner == comer.owner && now.rule == 2) {
                first.state = "gone";
                continue;
            }
            if (first.owner == comer.owner && now.rule == 3) {
                int less = Math.min(comer.left, first.left);
                takeFrom(comer, less, false);
                takeFrom(first, less, false);
                first.visible = Math.min(first.visible, first.left);
                continue;
            }
            int quantity = Math.min(comer.left, visibleOf(first));
            note(comer.side == 0 ? comer : first, comer.side == 0 ? first : comer, price, quantity);
            if (first.kind == 2) {
                first.visible -= quantity;
                if (first.visible == 0 && first.left > 0) {
                    first.visible = Math.min(first.show, first.left);
                    first.time = now.clock++;
                }
            }
        }
    }

    private void stops() {
        while (now.open) {
            Party reached = null;
            for (Party o : now.orders) {
                if (reached == null && o.state.equals("waiting") && now.last != 0
                        && (o.side == 0 ? now.last >= o.trigger : now.last <= o.trigger)) {
                    reached = o;
                }
            }
            if (reached == null) return;
            reached.state = "coming";
            goIn(reached, 0);
            leave(reached);
        }
    }

    private static void leave(Party o) {
        if (o.state.equals("coming")) {
            o.state = "gone";
        }
    }

    private void enter(Party o) {
        o.state = "coming";
        if (now.open) {
            goIn(o, o.price);
        }
        if (o.state.equals("coming")) {
            comeToRest(o);
        }
    }

    private Party begin(int kind, int owner, int side, int quantity) {
        Party o = new Party();
        o.kind = kind;
        o.owner = owner;
        o.side = side;
        o.left = quantity;
        return o;
    }

    private int come(Party o, int how) {
        o.number = now.orders.size();
        now.orders.add(o);
        if (o.kind == 4) {
            o.state = "waiting";
        } else if (o.kind == 3) {
            comeToRest(o);
        } else if (how == 0) {
            enter(o);
        } else {
            if (now.open && (how == 1 || enough(o) >= o.left)) {
                goIn(o, o.price);
            }
            leave(o);
        }
        stops();
        return o.number;
    }

    private int enough(Party comer) {
        int sum = 0;
        for (Party o : ranked(1 - comer.side)) {
            boolean within = comer.side == 0 ? priceOf(o) <= comer.price : priceOf(o) >= comer.price;
            if (within && (now.rule == 0 || o.owner != comer.owner)) {
                sum += o.left;
            }
        }
        return sum;
    }

    private int whyNot(int owner, int side, boolean mayBe) {
        if (!in(owner, 0, 7) || !in(side, 0, 1)) return -1;
        if (!mayBe) return -6;
        return now.orders.size() == 60 ? -7 : 0;
    }

    int limit(int owner, int side, int quantity, int price, int how) {
        int why = whyNot(owner, side,
                in(quantity, 1, 999) && in(price, 1, 999) && in(how, 0, 2));
        if (why != 0) return refuse(why);
        Party o = begin(1, owner, side, quantity);
        o.price = price;
        return come(o, how);
    }

    int hidden(int owner, int side, int quantity, int price, int show) {
        int why = whyNot(owner, side,
                in(quantity, 1, 999) && in(price, 1, 999) && in(show, 1, 999));
        if (why != 0) return refuse(why);
        Party o = begin(2, owner, side, quantity);
        o.price = price;
        o.show = show;
        return come(o, 0);
    }

    int pegged(int owner, int side, int quantity, int offset) {
        int why = whyNot(owner, side, in(quantity, 1, 999) && in(offset, 0, 99));
        if (why != 0) return refuse(why);
        Party o = begin(3, owner, side, quantity);
        o.offset = offset;
        return come(o, 0);
    }

    int halt(int owner, int side, int quantity, int trigger) {
        int why = whyNot(owner, side, in(quantity, 1, 999) && in(trigger, 1, 999));
        if (why != 0) return refuse(why);
        Party o = begin(4, owner, side, quantity);
        o.trigger = trigger;
        return come(o, 0);
    }

    int market(int owner, int side, int quantity) {
        if (!in(owner, 0, 7) || !in(side, 0, 1)) return refuse(-1);
        if (!in(quantity, 1, 999) || !now.open) return refuse(-6);
        Party o = begin(0, owner, side, quantity);
        goIn(o, 0);
        stops();
        return o.traded;
    }

    /** The numbers of each ITEM, or the FAULT as the only one. */
    private static List<int[]> items(int[] signs) {
        List<int[]> all = new ArrayList<>();
        int at = 0;
        while (true) {
            int[] item = new int[5];
            String[] shape = {"abcdefgh", "+-", "#", "@", "#", "h", "#"};
            for (int part = 0; part < shape.length; part++) {
                int sign = at < signs.length ? signs[at] : NONE;
                if (part == 5 && sign != 'h') break;
                if (shape[part].equals("#")) {
                    int start = at;
                    int v = 0;
                    while (at < signs.length && at < start + 3 && signs[at] >= '0' && signs[at] <= '9') {
                        v = v * 10 + signs[at] - '0';
                        at++;
                    }
                    if (v == 0) return List.of(new int[] {start});
                    item[part / 2 + 1] = v;
                } else {
                    int found = sign < 1 || sign > 127 ? -1 : shape[part].indexOf(sign);
                    if (found < 0) return List.of(new int[] {at});
                    if (part < 2) {
                        item[part] = found;
                    }
                    at++;
                }
            }
            all.add(item);
            if (at == signs.length) return all;
            if (signs[at] != ';') return List.of(new int[] {at});
            at++;
        }
    }

    int read(int s) {
        if (!in(s, 0, 7)) return refuse(-1);
        if (shelves[s] instanceof Integer) return refuse(-2);
        if (shelves[s] == null) return refuse(-3);
        int[] signs = new int[rowOf(s).length];
        for (int i = 0; i < signs.length; i++) {
            signs[i] = (int) rowOf(s)[i];
        }
        List<int[]> items = items(signs);
        fault = items.get(0).length == 1 ? items.get(0)[0] : NONE;
        if (fault != NONE) return refuse(-6);
        if (items.size() + now.orders.size() > 60) return refuse(-7);
        for (int[] item : items) {
            Party o = begin(item[4] == 0 ? 1 : 2, item[0], item[1], item[2]);
            o.price = item[3];
            o.show = item[4];
            come(o, 0);
        }
        return items.size();
    }

    int fault() {
        return fault;
    }

    int cancel(int o) {
        Party party = order(o);
        if (party == null) return refuse(-1);
        if (!rests(party) && !party.state.equals("waiting")) return refuse(-6);
        party.state = "gone";
        return party.left;
    }

    int amend(int o, int quantity, int price) {
        Party party = order(o);
        if (party == null) return refuse(-1);
        boolean can = party.state.equals("waiting") || (rests(party) && party.kind != 3);
        if (!in(quantity, 1, 999) || !in(price, 1, 999) || !can) return refuse(-6);
        int before = party.traded;
        if (party.kind == 4) {
            party.left = quantity;
            party.trigger = price;
        } else if (price == party.price && quantity <= party.left) {
            party.left = quantity;
            party.visible = Math.min(party.visible, quantity);
        } else {
            party.left = quantity;
            party.price = price;
            enter(party);
        }
        stops();
        return party.traded - before;
    }

    int rule(int v) {
        if (!in(v, 0, 3)) return refuse(-6);
        int was = now.rule;
        now.rule = v;
        return was;
    }

    private int sum(int side, int least, int most) {
        int sum = 0;
        for (Party o : now.orders) {
            if (rests(o) && o.side == side && o.kind != 3 && in(o.price, least, most)) {
                sum += o.left;
            }
        }
        return sum;
    }

    /** PRICE and VOLUME. */
    private int[] found() {
        int aim = now.last == 0 ? 500 : now.last;
        long[] best = null;
        for (int p = 1; p <= 999; p++) {
            int buys = sum(0, p, 999);
            int sells = sum(1, 1, p);
            long[] told = {-Math.min(buys, sells), Math.abs(buys - sells), Math.abs(p - aim), p};
            if (best == null || Arrays.compare(told, best) < 0) {
                best = told;
            }
        }
        return new int[] {best[0] == 0 ? 0 : (int) best[3], (int) -best[0]};
    }

    int uncross() {
        if (now.open) return refuse(-6);
        int[] found = found();
        int undone = found[1];
        List<Party> traded = new ArrayList<>();
        while (undone > 0) {
            Party[] firsts = new Party[2];
            for (int side = 0; side < 2; side++) {
                for (Party o : ranked(side)) {
                    if (firsts[side] == null && o.kind != 3) {
                        firsts[side] = o;
                    }
                }
            }
            int quantity = Math.min(undone, Math.min(firsts[0].left, firsts[1].left));
            note(firsts[0], firsts[1], found[0], quantity);
            traded.add(firsts[0]);
            traded.add(firsts[1]);
            undone -= quantity;
        }
        for (Party o : traded) {
            o.visible = Math.min(o.show, o.left);
        }
        now.open = true;
        stops();
        return found[1];
    }

    int close() {
        if (!now.open) return refuse(-6);
        now.open = false;
        return count("resting");
    }

    private int count(String state) {
        int n = 0;
        for (Party o : now.orders) {
            n += o.state.equals(state) ? 1 : 0;
        }
        return n;
    }

    int crossing(int what) {
        if (!in(what, 0, 1)) return refuse(-5);
        return now.open ? refuse(-6) : found()[what];
    }

    int orderOf(int o, int what) {
        Party party = order(o);
        if (party == null || !in(what, 0, 7)) return refuse(-5);
        int[] told = {party.kind, party.owner, party.side, party.left,
            List.of("waiting", "resting", "filled", "gone").indexOf(party.state),
            priceOf(party), visibleOf(party), party.traded};
        return told[what];
    }

    int rank(int side, int i) {
        if (!in(side, 0, 1)) return refuse(-1) - 10;
        List<Party> line = ranked(side);
        return in(i, 0, line.size() - 1) ? line.get(i).number : NONE;
    }

    int depth(int side, int k, int what) {
        if (!in(side, 0, 1)) return refuse(-1) - 10;
        if (!in(what, 0, 1)) return refuse(-5) - 10;
        List<int[]> levels = new ArrayList<>();
        for (Party o : ranked(side)) {
            if (levels.isEmpty() || levels.get(levels.size() - 1)[0] != priceOf(o)) {
                levels.add(new int[] {priceOf(o), 0});
            }
            levels.get(levels.size() - 1)[1] += visibleOf(o);
        }
        return in(k, 0, levels.size() - 1) ? levels.get(k)[what] : NONE;
    }

    int ahead(int o) {
        Party party = order(o);
        if (party == null) return refuse(-1) - 10;
        List<Party> line = ranked(party.side);
        int place = line.indexOf(party);
        int sum = 0;
        for (int i = 0; i < place; i++) {
            sum += visibleOf(line.get(i));
        }
        return place < 0 ? NONE : sum;
    }

    int sweep(int side, int quantity) {
        if (!in(side, 0, 1)) return refuse(-1) - 10;
        if (!in(quantity, 1, 99999)) return refuse(-6) - 10;
        int cost = 0;
        int open = quantity;
        for (Party o : ranked(1 - side)) {
            int part = Math.min(open, o.left);
            cost += part * priceOf(o);
            open -= part;
        }
        return open == 0 ? cost : NONE;
    }

    int trades() {
        return now.trades.size();
    }

    int trade(int i, int what) {
        if (!in(i, 0, Math.min(200, now.trades.size()) - 1) || !in(what, 0, 3)) return refuse(-5);
        return now.trades.get(i)[what];
    }

    int position(int owner) {
        return in(owner, 0, 7) ? 1000000 + now.bought[owner] : refuse(-1);
    }

    int cash(int owner) {
        return in(owner, 0, 7) ? 1000000000 + now.got[owner] : refuse(-1);
    }

    int judge(int s, int n) {
        if (!in(s, 0, 7)) return refuse(-1) - 10;
        if (shelves[s] instanceof Integer) return refuse(-2) - 10;
        if (shelves[s] == null) return refuse(-3) - 10;
        if (n < 0) return refuse(-4) - 10;
        if (4L * n > rowOf(s).length) return refuse(-5) - 10;
        for (int i = 0; i < n; i++) {
            if (i >= now.trades.size()) return i;
            for (int what = 0; what < 4; what++) {
                if ((int) rowOf(s)[4 * i + what] != now.trades.get(i)[what]) return i;
            }
        }
        return NONE;
    }

    private int draw(int n) {
        now.seed = now.seed * 1103515245 + 12345;
        return (int) (((now.seed & 0xffffffffL) >> 16) % n);
    }

    int draws(int n) {
        if (!in(n, 1, 20)) return refuse(-6);
        int came = 0;
        for (int i = 0; i < n; i++) {
            int owner = draw(8);
            int side = draw(2);
            Party o = begin(1, owner, side, draw(20) + 1);
            o.price = draw(21) + 490;
            if (now.orders.size() < 60) {
                come(o, 0);
                came++;
            }
        }
        return came;
    }

    int seed(int v) {
        int was = now.seed;
        now.seed = v;
        return was;
    }

    int image() {
        image = now.copy();
        return now.orders.size();
    }

    int restore() {
        if (image == null) return refuse(-6);
        now = image.copy();
        for (int s = 0; s < 8; s++) {
            if (shelves[s] instanceof Integer && order((Integer) shelves[s]) == null) {
                shelves[s] = null;
            }
        }
        return now.orders.size();
    }

    int status(int what) {
        if (in(what, 11, 17)) return refused[what - 10];
        switch (what) {
            case 0: return now.orders.size();
            case 1: return count("resting");
            case 2: return count("waiting");
            case 3: return now.open ? 1 : 0;
            case 4: return now.rule;
            case 5: return now.last;
            case 6: return now.seed;
            default: return NONE;
        }
    }
}
