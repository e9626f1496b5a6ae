import java.util.Arrays;

/**
 * An order book that opens by an auction. What each call does and answers
 * stands in the document (../shared/DOC.md), by the promise of its name.
 * All rows are made with the object and used again: no call makes new ones.
 */
public final class UncrossedBook {
    public static final int NONE = -1;

    private static final int NOBODY = -1;
    private static final int OTHER = -2;
    private static final int NOTHING = -3;
    private static final int BELOW = -4;
    private static final int BEYOND = -5;
    private static final int WRONG = -6;
    private static final int ROOM = -7;
    private static final int REASONS = 7;
    /** Where NONE is an answer too, refusals are told lower by this. */
    private static final int APART = 10;

    private static final int SHELVES = 8;
    private static final int MOST_ELEMENTS = 160;
    private static final int BYTES = 0;
    private static final int SHORTS = 1;
    private static final int INTS = 2;
    private static final int LONGS = 3;
    private static final int ROW_MARK = 100;

    private static final int BUY = 0;
    private static final int SELL = 1;
    private static final int OWNERS = 8;
    private static final int MOST_ORDERS = 60;
    private static final int MOST_MEASURE = 999;
    private static final int MOST_OFFSET = 99;
    private static final int MOST_SWEEP = 99999;

    private static final int ORDER = 0;
    private static final int LIMIT = 1;
    private static final int HIDDEN = 2;
    private static final int PEGGED = 3;
    private static final int STOP = 4;

    private static final int WAITING = 0;
    private static final int RESTING = 1;
    private static final int FILLED = 2;
    private static final int GONE = 3;
    /** Only while a call lasts: the order has come, and isn't settled yet. */
    private static final int COMING = 4;

    private static final int STAY = 0;
    private static final int NOW = 1;
    private static final int ALL = 2;

    private static final int AUCTION = 0;
    private static final int OPEN = 1;
    private static final int ALL_TRADE = 0;
    private static final int COMER_GOES = 1;
    private static final int RESTER_GOES = 2;
    private static final int BOTH_LESSEN = 3;
    private static final int MIDDLE_PRICE = 500;

    private static final int FOUR = 4;
    private static final int KEPT_TRADES = 200;
    private static final int MOST_TOLD = 40;
    private static final int POSITION_ZERO = 1000000;
    private static final int CASH_ZERO = 1000000000;

    private static final int MOST_DRAWS = 20;
    private static final int DRAW_FACTOR = 1103515245;
    private static final int DRAW_STEP = 12345;

    private final Shelf[] shelves = new Shelf[SHELVES];
    private final int[] refusals = new int[REASONS + 1];
    private final Desk desk = new Desk();
    private final Book book = desk.book;
    private final Auction auction = new Auction();
    private final Ranking ranking = new Ranking();
    private final TextReader reader = new TextReader();
    private final Book taken = new Book();
    private boolean hasImage = false;
    private int latestFault = NONE;

    public UncrossedBook() {
        for (int s = 0; s < SHELVES; s++) {
            shelves[s] = new Shelf();
        }
    }

    // ---- shelves

    public int row(int s, int sort, int n) {
        if (!isShelf(s)) {
            return refuse(NOBODY);
        }
        if (n < 0) {
            return refuse(BELOW);
        }
        if (sort < BYTES || sort > LONGS) {
            return refuse(WRONG);
        }
        if (n > MOST_ELEMENTS) {
            return refuse(ROOM);
        }
        shelves[s].holdRow(sort, n);
        return 1;
    }

    public int set(int s, int i, long v) {
        int reason = reasonAgainstRow(s);
        if (reason != 0) {
            return refuse(reason);
        }
        if (!shelves[s].hasElement(i)) {
            return refuse(BEYOND);
        }
        shelves[s].put(i, v);
        return 1;
    }

    public int copy(int p, int q, int i, int j, int n) {
        if (!isShelf(p) || !isShelf(q)) {
            return refuse(NOBODY);
        }
        Shelf from = shelves[p];
        Shelf to = shelves[q];
        if (from.holdsOrder() || to.holdsOrder()) {
            return refuse(OTHER);
        }
        if (from.holdsRow() && to.holdsRow() && from.sort != to.sort) {
            return refuse(OTHER);
        }
        if (!from.holdsRow() || !to.holdsRow()) {
            return refuse(NOTHING);
        }
        if (n < 0) {
            return refuse(BELOW);
        }
        if (!from.hasSpan(i, n) || !to.hasSpan(j, n)) {
            return refuse(BEYOND);
        }
        System.arraycopy(from.elements, i, to.elements, j, n);
        return 1;
    }

    public long element(int s, int i) {
        if (!isShelf(s) || !shelves[s].hasElement(i)) {
            return 0;
        }
        return shelves[s].elements[i];
    }

    public int show(int s, int o) {
        if (!isShelf(s)) {
            return refuse(NOBODY);
        }
        if (o == NONE) {
            shelves[s].holdNothing();
            return 0;
        }
        if (book.orderAt(o) == null) {
            return refuse(NOBODY);
        }
        shelves[s].holdOrder(o);
        return 1;
    }

    public int holds(int s) {
        if (!isShelf(s)) {
            return NONE;
        }
        Shelf shelf = shelves[s];
        return shelf.holdsRow() ? ROW_MARK + shelf.sort : shelf.order;
    }

    public int says(int s, int kind) {
        if (!isShelf(s) || kind < ORDER || kind > STOP) {
            return refuse(NOBODY);
        }
        if (shelves[s].holdsRow()) {
            return refuse(OTHER);
        }
        Order told = book.orderAt(shelves[s].order);
        if (told == null) {
            return refuse(NOTHING);
        }
        if (!told.isUnder(kind)) {
            return refuse(OTHER);
        }
        if (kind == ORDER) {
            return told.left;
        }
        return kind == HIDDEN ? told.visibleNow() : book.priceOf(told);
    }

    // ---- orders that come

    public int limit(int owner, int side, int quantity, int price, int how) {
        boolean mayBe = isMeasure(quantity) && isMeasure(price) && how >= STAY && how <= ALL;
        int reason = reasonAgainstComer(owner, side, mayBe);
        return reason != 0 ? refuse(reason)
                : desk.bring(LIMIT, owner, side, quantity, price, 0, how);
    }

    public int hidden(int owner, int side, int quantity, int price, int show) {
        boolean mayBe = isMeasure(quantity) && isMeasure(price) && isMeasure(show);
        int reason = reasonAgainstComer(owner, side, mayBe);
        return reason != 0 ? refuse(reason)
                : desk.bring(HIDDEN, owner, side, quantity, price, show, STAY);
    }

    public int pegged(int owner, int side, int quantity, int offset) {
        boolean mayBe = isMeasure(quantity) && offset >= 0 && offset <= MOST_OFFSET;
        int reason = reasonAgainstComer(owner, side, mayBe);
        return reason != 0 ? refuse(reason)
                : desk.bring(PEGGED, owner, side, quantity, 0, offset, STAY);
    }

    public int halt(int owner, int side, int quantity, int trigger) {
        boolean mayBe = isMeasure(quantity) && isMeasure(trigger);
        int reason = reasonAgainstComer(owner, side, mayBe);
        return reason != 0 ? refuse(reason)
                : desk.bring(STOP, owner, side, quantity, trigger, 0, STAY);
    }

    public int market(int owner, int side, int quantity) {
        if (!isOwner(owner) || !isSide(side)) {
            return refuse(NOBODY);
        }
        if (!isMeasure(quantity) || book.phase != OPEN) {
            return refuse(WRONG);
        }
        return desk.pass(owner, side, quantity);
    }

    public int read(int s) {
        int reason = reasonAgainstRow(s);
        if (reason != 0) {
            return refuse(reason);
        }
        latestFault = reader.faultIn(shelves[s]);
        if (latestFault != NONE) {
            return refuse(WRONG);
        }
        if (reader.count > MOST_ORDERS - book.count) {
            return refuse(ROOM);
        }
        for (int i = 0; i < reader.count; i++) {
            int kind = reader.shows[i] == 0 ? LIMIT : HIDDEN;
            desk.bring(kind, reader.owners[i], reader.sides[i], reader.quantities[i],
                    reader.prices[i], reader.shows[i], STAY);
        }
        return reader.count;
    }

    public int fault() {
        return latestFault;
    }

    // ---- what becomes of them

    public int cancel(int o) {
        Order leaving = book.orderAt(o);
        if (leaving == null) {
            return refuse(NOBODY);
        }
        if (leaving.state != RESTING && leaving.state != WAITING) {
            return refuse(WRONG);
        }
        leaving.state = GONE;
        return leaving.left;
    }

    public int amend(int o, int quantity, int price) {
        Order amended = book.orderAt(o);
        if (amended == null) {
            return refuse(NOBODY);
        }
        if (!isMeasure(quantity) || !isMeasure(price) || !amended.canBeAmended()) {
            return refuse(WRONG);
        }
        int earlier = amended.traded;
        desk.alter(amended, quantity, price);
        return amended.traded - earlier;
    }

    public int rule(int v) {
        if (v < ALL_TRADE || v > BOTH_LESSEN) {
            return refuse(WRONG);
        }
        int earlier = book.rule;
        book.rule = v;
        return earlier;
    }

    public int uncross() {
        if (book.phase != AUCTION) {
            return refuse(WRONG);
        }
        auction.find(book);
        desk.open(auction.price, auction.volume);
        return auction.volume;
    }

    public int close() {
        if (book.phase != OPEN) {
            return refuse(WRONG);
        }
        book.phase = AUCTION;
        return book.countIn(RESTING);
    }

    public int crossing(int what) {
        if (what < 0 || what > 1) {
            return refuse(BEYOND);
        }
        if (book.phase != AUCTION) {
            return refuse(WRONG);
        }
        auction.find(book);
        return what == 0 ? auction.price : auction.volume;
    }

    // ---- what is told

    public int orderOf(int o, int what) {
        Order told = book.orderAt(o);
        if (told == null) {
            return refuse(BEYOND);
        }
        switch (what) {
            case 0:
                return told.kind;
            case 1:
                return told.owner;
            case 2:
                return told.side;
            case 3:
                return told.left;
            case 4:
                return told.state;
            case 5:
                return book.priceOf(told);
            case 6:
                return told.visibleNow();
            case 7:
                return told.traded;
            default:
                return refuse(BEYOND);
        }
    }

    public int rank(int side, int i) {
        if (!isSide(side)) {
            return refuseApart(NOBODY);
        }
        ranking.lineUp(book, side);
        Order told = ranking.orderAt(i);
        return told == null ? NONE : told.number;
    }

    public int depth(int side, int k, int what) {
        if (!isSide(side)) {
            return refuseApart(NOBODY);
        }
        if (what < 0 || what > 1) {
            return refuseApart(BEYOND);
        }
        ranking.lineUp(book, side);
        int price = ranking.priceOfLevel(k);
        if (price == 0) {
            return NONE;
        }
        return what == 0 ? price : ranking.visibleAt(price);
    }

    public int ahead(int o) {
        Order told = book.orderAt(o);
        if (told == null) {
            return refuseApart(NOBODY);
        }
        ranking.lineUp(book, told.side);
        return ranking.visibleAhead(told);
    }

    public int sweep(int side, int quantity) {
        if (!isSide(side)) {
            return refuseApart(NOBODY);
        }
        if (quantity < 1 || quantity > MOST_SWEEP) {
            return refuseApart(WRONG);
        }
        ranking.lineUp(book, otherSide(side));
        return ranking.costOf(quantity);
    }

    public int trades() {
        return book.log.count;
    }

    public int trade(int i, int what) {
        if (!book.log.keeps(i) || what < 0 || what >= FOUR) {
            return refuse(BEYOND);
        }
        return book.log.tell(i, what);
    }

    public int position(int owner) {
        if (!isOwner(owner)) {
            return refuse(NOBODY);
        }
        return POSITION_ZERO + book.log.positions[owner];
    }

    public int cash(int owner) {
        if (!isOwner(owner)) {
            return refuse(NOBODY);
        }
        return CASH_ZERO + book.log.cash[owner];
    }

    public int judge(int s, int n) {
        int reason = reasonAgainstRow(s);
        if (reason != 0) {
            return refuseApart(reason);
        }
        if (n < 0) {
            return refuseApart(BELOW);
        }
        if (n > shelves[s].size / FOUR) {
            return refuseApart(BEYOND);
        }
        if (n > MOST_TOLD) {
            return refuseApart(WRONG);
        }
        for (int four = 0; four < n; four++) {
            if (!book.log.isToldBy(shelves[s], four)) {
                return four;
            }
        }
        return NONE;
    }

    // ---- draws, the image, counts

    public int draws(int n) {
        if (n < 1 || n > MOST_DRAWS) {
            return refuse(WRONG);
        }
        int came = 0;
        for (int i = 0; i < n; i++) {
            int owner = book.drawBelow(OWNERS);
            int side = book.drawBelow(2);
            int quantity = book.drawBelow(20) + 1;
            int price = book.drawBelow(21) + 490;
            if (desk.bring(LIMIT, owner, side, quantity, price, 0, STAY) != NONE) {
                came++;
            }
        }
        return came;
    }

    public int seed(int v) {
        int earlier = book.seed;
        book.seed = v;
        return earlier;
    }

    public int image() {
        taken.takeOver(book);
        hasImage = true;
        return taken.count;
    }

    public int restore() {
        if (!hasImage) {
            return refuse(WRONG);
        }
        book.takeOver(taken);
        for (int s = 0; s < SHELVES; s++) {
            if (shelves[s].order >= book.count) {
                shelves[s].holdNothing();
            }
        }
        return book.count;
    }

    public int status(int what) {
        if (what > APART && what <= APART + REASONS) {
            return refusals[what - APART];
        }
        switch (what) {
            case 0:
                return book.count;
            case 1:
                return book.countIn(RESTING);
            case 2:
                return book.countIn(WAITING);
            case 3:
                return book.phase;
            case 4:
                return book.rule;
            case 5:
                return book.log.last;
            case 6:
                return book.seed;
            default:
                return NONE;
        }
    }

    // ---- what the calls share

    private int refuse(int reason) {
        if (reason < 0 && reason >= -REASONS) {
            refusals[-reason]++;
        }
        return reason;
    }

    private int refuseApart(int reason) {
        return refuse(reason) - APART;
    }

    /** Why no ROW can be had from SHELF s; 0 if there is one. */
    private int reasonAgainstRow(int s) {
        if (!isShelf(s)) {
            return NOBODY;
        }
        if (shelves[s].holdsOrder()) {
            return OTHER;
        }
        return shelves[s].holdsRow() ? 0 : NOTHING;
    }

    /** Why no ORDER of such numbers can come; 0 if it can. */
    private int reasonAgainstComer(int owner, int side, boolean mayBe) {
        if (!isOwner(owner) || !isSide(side)) {
            return NOBODY;
        }
        if (!mayBe) {
            return WRONG;
        }
        return book.count < MOST_ORDERS ? 0 : ROOM;
    }

    private static boolean isShelf(int s) {
        return s >= 0 && s < SHELVES;
    }

    private static boolean isOwner(int owner) {
        return owner >= 0 && owner < OWNERS;
    }

    private static boolean isSide(int side) {
        return side == BUY || side == SELL;
    }

    /** PRICES, QUANTITIES, SHOWS and TRIGGERS all have the same range. */
    private static boolean isMeasure(int v) {
        return v >= 1 && v <= MOST_MEASURE;
    }

    private static int otherSide(int side) {
        return side == BUY ? SELL : BUY;
    }

    /** What a SHELF holds: a ROW, an ORDER's number, or NOTHING. */
    private static final class Shelf {
        final long[] elements = new long[MOST_ELEMENTS];
        int size = 0;
        int sort = NONE;
        int order = NONE;

        void holdNothing() {
            size = 0;
            sort = NONE;
            order = NONE;
        }

        void holdOrder(int number) {
            holdNothing();
            order = number;
        }

        void holdRow(int newSort, int newSize) {
            holdNothing();
            Arrays.fill(elements, 0L);
            sort = newSort;
            size = newSize;
        }

        boolean holdsRow() {
            return sort != NONE;
        }

        boolean holdsOrder() {
            return order != NONE;
        }

        boolean hasElement(int i) {
            return i >= 0 && i < size;
        }

        boolean hasSpan(int i, int n) {
            return i >= 0 && n >= 0 && i <= size - n;
        }

        void put(int i, long v) {
            if (!hasElement(i)) {
                return;
            }
            switch (sort) {
                case BYTES:
                    elements[i] = (byte) v;
                    break;
                case SHORTS:
                    elements[i] = (short) v;
                    break;
                case INTS:
                    elements[i] = (int) v;
                    break;
                default:
                    elements[i] = v;
                    break;
            }
        }

        int intAt(int i) {
            return hasElement(i) ? (int) elements[i] : 0;
        }
    }

    /** One ORDER of any KIND; a MARKET one too, with NONE as its number. */
    private static final class Order {
        final int number;
        int kind = ORDER;
        int owner = 0;
        int side = BUY;
        int left = 0;
        int state = GONE;
        int traded = 0;
        /** A STOP's TRIGGER too; of a PEGGED one 0, as its PRICE isn't kept. */
        int price = 0;
        /** A HIDDEN one's SHOW, a PEGGED one's OFFSET. */
        int detail = 0;
        /** Of a HIDDEN one alone. */
        int visible = 0;
        int time = 0;

        Order(int number) {
            this.number = number;
        }

        void begin(int newKind, int newOwner, int newSide, int quantity, int newPrice,
                int newDetail) {
            kind = newKind;
            owner = newOwner;
            side = newSide;
            left = quantity;
            state = COMING;
            traded = 0;
            price = newPrice;
            detail = newDetail;
            visible = 0;
            time = 0;
        }

        void takeOver(Order from) {
            kind = from.kind;
            owner = from.owner;
            side = from.side;
            left = from.left;
            state = from.state;
            traded = from.traded;
            price = from.price;
            detail = from.detail;
            visible = from.visible;
            time = from.time;
        }

        boolean isUnder(int wanted) {
            return wanted == ORDER || wanted == kind || (wanted == LIMIT && kind == HIDDEN);
        }

        boolean canBeAmended() {
            return kind == STOP ? state == WAITING : kind != PEGGED && state == RESTING;
        }

        boolean restsOn(int wanted) {
            return state == RESTING && side == wanted;
        }

        int visibleNow() {
            if (state != RESTING) {
                return 0;
            }
            return kind == HIDDEN ? visible : left;
        }

        /** Its PRICE, if the best of LIMIT and HIDDEN ones of its SIDE is this; 0 for none. */
        int priceBy(int best) {
            if (kind != PEGGED) {
                return price;
            }
            if (state != RESTING || best == 0) {
                return 0;
            }
            int following = side == BUY ? best - detail : best + detail;
            return isMeasure(following) ? following : 0;
        }

        /** By RANK, of two of one SIDE that have these PRICES. */
        boolean isAheadOf(Order that, int mine, int theirs) {
            if (mine != theirs) {
                return side == BUY ? mine > theirs : mine < theirs;
            }
            if ((kind == PEGGED) != (that.kind == PEGGED)) {
                return that.kind == PEGGED;
            }
            return time < that.time;
        }

        void giveTraded(int quantity) {
            left -= quantity;
            traded += quantity;
            if (left == 0) {
                state = FILLED;
            }
        }

        void lessenTo(int quantity) {
            left = quantity;
            visible = Math.min(visible, left);
        }

        void showAnew() {
            if (kind == HIDDEN) {
                visible = Math.min(detail, left);
            }
        }
    }

    /** The TRADES kept, and what all trades came to. */
    private static final class TradeLog {
        final int[] fours = new int[KEPT_TRADES * FOUR];
        final int[] positions = new int[OWNERS];
        final int[] cash = new int[OWNERS];
        int count = 0;
        int last = 0;

        void takeOver(TradeLog from) {
            System.arraycopy(from.fours, 0, fours, 0, fours.length);
            System.arraycopy(from.positions, 0, positions, 0, OWNERS);
            System.arraycopy(from.cash, 0, cash, 0, OWNERS);
            count = from.count;
            last = from.last;
        }

        void note(Order buy, Order sell, int price, int quantity) {
            if (count < KEPT_TRADES) {
                int at = count * FOUR;
                fours[at] = buy.number;
                fours[at + 1] = sell.number;
                fours[at + 2] = price;
                fours[at + 3] = quantity;
            }
            count++;
            last = price;
            positions[buy.owner] += quantity;
            cash[buy.owner] -= price * quantity;
            positions[sell.owner] -= quantity;
            cash[sell.owner] += price * quantity;
        }

        boolean keeps(int i) {
            return i >= 0 && i < count && i < KEPT_TRADES;
        }

        int tell(int i, int what) {
            if (!keeps(i) || what < 0 || what >= FOUR) {
                return NONE;
            }
            return fours[i * FOUR + what];
        }

        boolean isToldBy(Shelf told, int four) {
            if (!keeps(four)) {
                return false;
            }
            for (int what = 0; what < FOUR; what++) {
                if (told.intAt(four * FOUR + what) != tell(four, what)) {
                    return false;
                }
            }
            return true;
        }
    }

    /** All that THE IMAGE keeps: the orders, the trades, the state of things. */
    private static final class Book {
        final Order[] orders = new Order[MOST_ORDERS];
        final TradeLog log = new TradeLog();
        int count = 0;
        int phase = AUCTION;
        int rule = ALL_TRADE;
        int seed = 1;
        int nextTime = 0;

        Book() {
            for (int i = 0; i < MOST_ORDERS; i++) {
                orders[i] = new Order(i);
            }
        }

        void takeOver(Book from) {
            for (int i = 0; i < from.count; i++) {
                orders[i].takeOver(from.orders[i]);
            }
            log.takeOver(from.log);
            count = from.count;
            phase = from.phase;
            rule = from.rule;
            seed = from.seed;
            nextTime = from.nextTime;
        }

        Order orderAt(int i) {
            return i >= 0 && i < count ? orders[i] : null;
        }

        void giveTime(Order order) {
            order.time = nextTime;
            nextTime++;
        }

        void rest(Order order) {
            order.state = RESTING;
            order.showAnew();
            giveTime(order);
        }

        /**
         * The first by RANK; null if none has a PRICE. A PEGGED one is never
         * first: one of the best PRICE that it follows is always ahead of it.
         */
        Order firstOn(int side) {
            Order first = null;
            for (int i = 0; i < count; i++) {
                Order order = orders[i];
                if (order.restsOn(side) && order.kind != PEGGED
                        && (first == null || order.isAheadOf(first, order.price, first.price))) {
                    first = order;
                }
            }
            return first;
        }

        /** Of LIMIT and HIDDEN ones; 0 if there is none. */
        int bestPrice(int side) {
            Order first = firstOn(side);
            return first == null ? 0 : first.price;
        }

        int priceOf(Order order) {
            return order.kind == PEGGED ? order.priceBy(bestPrice(order.side)) : order.price;
        }

        int countIn(int state) {
            int found = 0;
            for (int i = 0; i < count; i++) {
                if (orders[i].state == state) {
                    found++;
                }
            }
            return found;
        }

        int drawBelow(int n) {
            seed = seed * DRAW_FACTOR + DRAW_STEP;
            return n < 1 ? 0 : (seed >>> 16) % n;
        }
    }

    /** Lets orders come, trade, rest and go. */
    private static final class Desk {
        /** Each step takes at least 1 of the comer's LEFT, or a resting one out of the book. */
        private static final int MOST_STEPS = MOST_MEASURE + MOST_ORDERS;

        final Book book = new Book();
        private final Order passer = new Order(NONE);

        /** A new ORDER comes: its number; NONE if there is no room. */
        int bring(int kind, int owner, int side, int quantity, int price, int detail, int how) {
            if (book.count >= MOST_ORDERS) {
                return NONE;
            }
            Order order = book.orders[book.count];
            book.count++;
            order.begin(kind, owner, side, quantity, price, detail);
            if (kind == STOP) {
                order.state = WAITING;
            } else if (kind == PEGGED) {
                book.rest(order);
            } else if (how == STAY) {
                enter(order);
            } else {
                tryAtOnce(order, how);
            }
            wakeStops();
            return order.number;
        }

        /** A MARKET one comes: what it traded. */
        int pass(int owner, int side, int quantity) {
            passer.begin(ORDER, owner, side, quantity, 0, 0);
            goIn(passer, noLimit(side));
            wakeStops();
            return passer.traded;
        }

        void alter(Order order, int quantity, int price) {
            if (order.kind == STOP) {
                order.left = quantity;
                order.price = price;
            } else if (price == order.price && quantity <= order.left) {
                order.lessenTo(quantity);
            } else {
                order.left = quantity;
                order.price = price;
                order.state = COMING;
                enter(order);
            }
            wakeStops();
        }

        /** UNCROSS at a PRICE and VOLUME that were found. */
        void open(int price, int volume) {
            int undone = volume;
            // Each trade fills at least one of the two: the VOLUME is all of one SIDE's.
            for (int i = 0; i < MOST_ORDERS && undone > 0; i++) {
                Order buy = book.firstOn(BUY);
                Order sell = book.firstOn(SELL);
                if (buy == null || sell == null) {
                    break;
                }
                int quantity = Math.min(undone, Math.min(buy.left, sell.left));
                tradeAway(buy, sell, price, quantity);
                buy.showAnew();
                sell.showAnew();
                undone -= quantity;
            }
            book.phase = OPEN;
            wakeStops();
        }

        private void enter(Order order) {
            if (book.phase == OPEN) {
                goIn(order, order.price);
            }
            if (order.state == COMING) {
                book.rest(order);
            }
        }

        private void tryAtOnce(Order order, int how) {
            if (book.phase == OPEN && (how == NOW || thereIsEnoughFor(order))) {
                goIn(order, order.price);
            }
            endUnrested(order);
        }

        private static int noLimit(int side) {
            return side == BUY ? MOST_MEASURE : 1;
        }

        private static void endUnrested(Order comer) {
            if (comer.state == COMING) {
                comer.state = GONE;
            }
        }

        private boolean thereIsEnoughFor(Order comer) {
            int side = otherSide(comer.side);
            int best = book.bestPrice(side);
            int enough = 0;
            for (int i = 0; i < book.count; i++) {
                Order order = book.orders[i];
                boolean mayTrade = book.rule == ALL_TRADE || order.owner != comer.owner;
                if (order.restsOn(side) && mayTrade
                        && isWithin(comer, order.priceBy(best), comer.price)) {
                    enough += order.left;
                }
            }
            return enough >= comer.left;
        }

        private static boolean isWithin(Order comer, int price, int limit) {
            if (price == 0) {
                return false;
            }
            return comer.side == BUY ? price <= limit : price >= limit;
        }

        private void goIn(Order comer, int limit) {
            int side = otherSide(comer.side);
            for (int step = 0; step < MOST_STEPS && comer.state == COMING; step++) {
                Order first = book.firstOn(side);
                if (first == null || !isWithin(comer, first.price, limit)) {
                    return;
                }
                if (first.owner == comer.owner && book.rule != ALL_TRADE) {
                    meetOwn(comer, first);
                } else {
                    meet(comer, first);
                }
            }
        }

        private void meet(Order comer, Order first) {
            int quantity = Math.min(comer.left, first.visibleNow());
            if (comer.side == BUY) {
                tradeAway(comer, first, first.price, quantity);
            } else {
                tradeAway(first, comer, first.price, quantity);
            }
            if (first.kind == HIDDEN && first.state == RESTING) {
                comeRound(first, quantity);
            }
        }

        private void comeRound(Order order, int quantity) {
            order.visible -= quantity;
            if (order.visible <= 0) {
                order.showAnew();
                book.giveTime(order);
            }
        }

        private void tradeAway(Order buy, Order sell, int price, int quantity) {
            book.log.note(buy, sell, price, quantity);
            buy.giveTraded(quantity);
            sell.giveTraded(quantity);
        }

        private void meetOwn(Order comer, Order first) {
            if (book.rule == COMER_GOES) {
                comer.state = GONE;
            } else if (book.rule == RESTER_GOES) {
                first.state = GONE;
            } else {
                int less = Math.min(comer.left, first.left);
                lessenBy(comer, less);
                lessenBy(first, less);
            }
        }

        private static void lessenBy(Order order, int less) {
            order.lessenTo(order.left - less);
            if (order.left == 0) {
                order.state = GONE;
            }
        }

        private void wakeStops() {
            if (book.phase != OPEN) {
                return;
            }
            // Each that goes in waits no more.
            for (int i = 0; i < MOST_ORDERS; i++) {
                Order stop = firstReachedStop();
                if (stop == null) {
                    return;
                }
                stop.state = COMING;
                goIn(stop, noLimit(stop.side));
                endUnrested(stop);
            }
        }

        private Order firstReachedStop() {
            for (int i = 0; i < book.count; i++) {
                Order order = book.orders[i];
                if (order.kind == STOP && order.state == WAITING && isReached(order)) {
                    return order;
                }
            }
            return null;
        }

        private boolean isReached(Order stop) {
            int last = book.log.last;
            if (last == 0) {
                return false;
            }
            return stop.side == BUY ? last >= stop.price : last <= stop.price;
        }
    }

    /** Finds the PRICE and VOLUME of an UNCROSS; both 0 if nothing would trade. */
    private static final class Auction {
        private final int[] buysAt = new int[MOST_MEASURE + 1];
        private final int[] sellsAt = new int[MOST_MEASURE + 1];
        int price = 0;
        int volume = 0;

        void find(Book book) {
            int aim = book.log.last == 0 ? MIDDLE_PRICE : book.log.last;
            int buys = gather(book);
            int sells = 0;
            int leastGap = 0;
            price = 0;
            volume = 0;
            for (int p = 1; p <= MOST_MEASURE; p++) {
                sells += sellsAt[p];
                int here = Math.min(buys, sells);
                int gap = Math.abs(buys - sells);
                boolean better = here > volume;
                if (here == volume && here > 0) {
                    better = gap < leastGap
                            || (gap == leastGap && Math.abs(p - aim) < Math.abs(price - aim));
                }
                if (better) {
                    price = p;
                    volume = here;
                    leastGap = gap;
                }
                buys -= buysAt[p];
            }
        }

        /** Puts what is LEFT at each PRICE in the rows: the BUYS of all PRICES. */
        private int gather(Book book) {
            Arrays.fill(buysAt, 0);
            Arrays.fill(sellsAt, 0);
            int buys = 0;
            for (int i = 0; i < book.count; i++) {
                Order order = book.orders[i];
                if (order.state != RESTING || order.kind == PEGGED || !isMeasure(order.price)) {
                    continue;
                }
                if (order.side == BUY) {
                    buysAt[order.price] += order.left;
                    buys += order.left;
                } else {
                    sellsAt[order.price] += order.left;
                }
            }
            return buys;
        }
    }

    /** Those RESTING on a SIDE that have a PRICE, by RANK. */
    private static final class Ranking {
        private final Order[] line = new Order[MOST_ORDERS];
        private final int[] prices = new int[MOST_ORDERS];
        private int size = 0;

        void lineUp(Book book, int side) {
            size = 0;
            int best = book.bestPrice(side);
            for (int i = 0; i < book.count; i++) {
                Order order = book.orders[i];
                int price = order.priceBy(best);
                if (order.restsOn(side) && price != 0) {
                    placeIn(order, price);
                }
            }
        }

        private void placeIn(Order order, int price) {
            if (size >= MOST_ORDERS) {
                return;
            }
            int at = size;
            while (at > 0 && order.isAheadOf(line[at - 1], price, prices[at - 1])) {
                line[at] = line[at - 1];
                prices[at] = prices[at - 1];
                at--;
            }
            line[at] = order;
            prices[at] = price;
            size++;
        }

        Order orderAt(int i) {
            return i >= 0 && i < size ? line[i] : null;
        }

        /** The k-th of the PRICES; 0 if there is none. */
        int priceOfLevel(int k) {
            int level = -1;
            int price = 0;
            for (int i = 0; i < size; i++) {
                if (prices[i] != price) {
                    price = prices[i];
                    level++;
                }
                if (level == k) {
                    return price;
                }
            }
            return 0;
        }

        int visibleAt(int price) {
            int sum = 0;
            for (int i = 0; i < size; i++) {
                if (prices[i] == price) {
                    sum += line[i].visibleNow();
                }
            }
            return sum;
        }

        /** NONE if it isn't in the line. */
        int visibleAhead(Order order) {
            int sum = 0;
            for (int i = 0; i < size; i++) {
                if (line[i] == order) {
                    return sum;
                }
                sum += line[i].visibleNow();
            }
            return NONE;
        }

        /** NONE if there isn't that much. */
        int costOf(int quantity) {
            int wanted = quantity;
            int cost = 0;
            for (int i = 0; i < size && wanted > 0; i++) {
                int part = Math.min(wanted, line[i].left);
                cost += part * prices[i];
                wanted -= part;
            }
            return wanted > 0 ? NONE : cost;
        }
    }

    /** Reads a TEXT, and keeps its ITEMS till the next is read. */
    private static final class TextReader {
        /** An ITEM takes five letters and a semicolon at least. */
        private static final int MOST_ITEMS = MOST_ELEMENTS / 6 + 1;
        private static final int MOST_DIGITS = 3;
        /** Stands behind the last element, and can't stand in any TEXT. */
        private static final int END = -1;

        final int[] owners = new int[MOST_ITEMS];
        final int[] sides = new int[MOST_ITEMS];
        final int[] quantities = new int[MOST_ITEMS];
        final int[] prices = new int[MOST_ITEMS];
        /** 0 of a LIMIT one. */
        final int[] shows = new int[MOST_ITEMS];
        int count = 0;
        private int place = 0;
        private int fault = NONE;

        /** The FAULT; NONE if all of the ROW is a TEXT. */
        int faultIn(Shelf text) {
            count = 0;
            place = 0;
            fault = NONE;
            for (int item = 0; item < MOST_ITEMS; item++) {
                takeItem(text);
                if (fault != NONE || place >= text.size) {
                    return fault;
                }
                takeSign(text, ';');
            }
            return fault;
        }

        private void takeItem(Shelf text) {
            int owner = takeBetween(text, 'a', 'h') - 'a';
            int side = signAt(text) == '-' ? SELL : BUY;
            takeSign(text, side == SELL ? '-' : '+');
            int quantity = takeNumber(text);
            takeSign(text, '@');
            int price = takeNumber(text);
            int show = 0;
            if (signAt(text) == 'h') {
                takeSign(text, 'h');
                show = takeNumber(text);
            }
            if (fault == NONE && count < MOST_ITEMS) {
                owners[count] = owner;
                sides[count] = side;
                quantities[count] = quantity;
                prices[count] = price;
                shows[count] = show;
                count++;
            }
        }

        private int signAt(Shelf text) {
            return place < text.size ? text.intAt(place) : END;
        }

        private void takeSign(Shelf text, int wanted) {
            takeBetween(text, wanted, wanted);
        }

        /** From the first FAULT on nothing is taken any more. */
        private int takeBetween(Shelf text, int least, int most) {
            int sign = signAt(text);
            if (fault != NONE) {
                return sign;
            }
            if (sign < least || sign > most) {
                fault = place;
            } else {
                place++;
            }
            return sign;
        }

        private int takeNumber(Shelf text) {
            int start = place;
            int number = takeBetween(text, '0', '9') - '0';
            for (int digits = 1; digits < MOST_DIGITS && isDigitNext(text); digits++) {
                number = number * 10 + takeBetween(text, '0', '9') - '0';
            }
            if (fault == NONE && !isMeasure(number)) {
                fault = start;
            }
            return number;
        }

        private boolean isDigitNext(Shelf text) {
            int sign = signAt(text);
            return fault == NONE && sign >= '0' && sign <= '9';
        }
    }
}
