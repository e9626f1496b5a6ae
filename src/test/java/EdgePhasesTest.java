/** Edges of "2. PHASES", but for the AUCTION (EdgeAuctionTest). */
public final class EdgePhasesTest {
    private static final Edge PHASES = Edge.ahead("2. PHASES");

    private EdgePhasesTest() {
    }

    public static void main(String[] args) {
        add();
        Edge.run();
    }

    static void add() {
        phases();
        last();
        auction();
        comes();
        goesInTo();
        goesInTill();
        ruleAll();
        ruleComer();
        ruleRester();
        ruleBoth();
        ruleBothHidden();
        trade();
        rest();
        now();
        all();
        allCounts();
        allOthers();
        allGoesIn();
        stops();
        stopsReached();
        stopsInTurn();
        stopsGoIn();
    }

    private static void phases() {
        PHASES.holds("PHASE 0 AUCTION (at first), 1 OPEN.", "at first, by uncross(), by close()", x -> {
            Due.is("at first", x.status(3), 0);
            x.uncross();
            Due.is("OPEN", x.status(3), 1);
            x.close();
            Due.is("AUCTION", x.status(3), 0);
        });
        PHASES.holds("RULE 0 to 3 (0 at first).", "0 and 3 are, -1 and 4 are none", x -> {
            Due.is("at first", x.status(4), 0);
            Due.is("3", x.rule(3), 0);
            Due.is("4", x.rule(4), -6);
            Due.is("-1", x.rule(-1), -6);
            Due.is("0", x.rule(0), 3);
        });
    }

    private static void last() {
        String last = "LAST: the PRICE of the latest trade (0: none yet).";
        PHASES.holds(last, "none yet", Books::opened, x -> {
            x.limit(0, 0, 5, 500, 0);
            x.market(1, 0, 5);
            Due.is("status(5)", x.status(5), 0);
        });
        PHASES.holds(last, "of several in one call the latest", Books::opened, x -> {
            x.limit(0, 1, 1, 500, 0);
            x.limit(0, 1, 1, 501, 0);
            x.market(1, 0, 2);
            Due.is("status(5)", x.status(5), 501);
        });
        PHASES.holds(last, "that of the one that was there, not of the one that came", Books::opened, x -> {
            x.limit(0, 1, 1, 500, 0);
            x.limit(1, 0, 1, 999, 0);
            Due.is("status(5)", x.status(5), 500);
        });
        PHASES.holds(last, "an UNCROSS of VOLUME 0 leaves it", Books::rich, x -> {
            x.close();
            x.uncross();
            Due.is("status(5)", x.status(5), 490);
        });
        PHASES.holds(last, "what RULE 3 takes is no trade", Books::opened, x -> {
            x.rule(3);
            x.limit(0, 1, 5, 500, 0);
            x.limit(0, 0, 5, 500, 0);
            Due.is("status(5)", x.status(5), 0);
        });
        PHASES.holds(last, "the 201st trade's too", Books::opened, x -> {
            x.hidden(0, 1, 200, 500, 1);
            x.limit(0, 1, 1, 501, 0);
            x.market(1, 0, 201);
            Due.is("status(5)", x.status(5), 501);
        });
    }

    private static void auction() {
        String auction = "In the AUCTION nothing trades: LIMIT, HIDDEN, PEGGED ones come to REST, STOPS WAIT.";
        PHASES.holds(auction, "LIMIT and HIDDEN ones that would", x -> {
            x.limit(0, 1, 5, 500, 0);
            x.limit(1, 0, 5, 500, 0);
            x.hidden(1, 0, 5, 999, 2);
            Due.is("trades()", x.trades(), 0);
            Due.is("status(1)", x.status(1), 3);
            Due.are("BUYS", Books.line(x, 0), 2, 1);
        });
        PHASES.holds(auction, "a PEGGED one", x -> {
            x.pegged(0, 0, 5, 0);
            Due.are("the ORDER", Books.order(x, 0), 5, Books.RESTING, 0, 5, 0);
        });
        PHASES.holds(auction, "a STOP that LAST reaches", Books::richAuction, x -> {
            x.halt(7, 1, 5, 490);
            Due.are("the STOP", Books.order(x, 6), 5, Books.WAITING, 490, 0, 0);
        });
        PHASES.holds(auction, "one that is AMENDED so that it would", Books::richAuction, x -> {
            Due.is("amend(0, 5, 480)", x.amend(0, 5, 480), 0);
            Due.is("trades()", x.trades(), 2);
            Due.are("the ORDER", Books.order(x, 0), 5, Books.RESTING, 480, 5, 0);
        });
        PHASES.holds(auction, "a TEXT's and DRAWS", x -> {
            Books.readText(x, "a+5@500;b-5@500h2");
            x.draws(20);
            Due.is("trades()", x.trades(), 0);
            Due.is("status(1)", x.status(1), 22);
        });
    }

    private static void comes() {
        String limit = "a LIMIT or HIDDEN one that comes GOES IN with its PRICE as limit;";
        PHASES.holds(limit, "a LIMIT one at that PRICE, and 1 off", Books::opened, x -> {
            x.limit(0, 1, 5, 500, 0);
            x.limit(1, 0, 2, 499, 0);
            Due.is("1 off", x.trades(), 0);
            x.limit(1, 0, 2, 500, 0);
            Due.is("at that PRICE", x.trades(), 1);
        });
        PHASES.holds(limit, "a HIDDEN one at that PRICE, and 1 off", Books::opened, x -> {
            x.limit(0, 0, 5, 500, 0);
            x.hidden(1, 1, 2, 501, 1);
            Due.is("1 off", x.trades(), 0);
            x.hidden(1, 1, 2, 500, 1);
            Due.are("at that PRICE, whole", Books.trade(x, 0), 0, 2, 500, 2);
        });
        PHASES.holds("a PEGGED one RESTS;", "with others on both SIDES", Books::rich, x -> {
            Due.is("its number", x.pegged(7, 1, 5, 0), 6);
            Due.are("the ORDER", Books.order(x, 6), 5, Books.RESTING, 510, 5, 0);
            Due.is("trades()", x.trades(), 2);
        });
        PHASES.holds("a STOP WAITS;", "with others on both SIDES", Books::rich, x -> {
            Due.is("its number", x.halt(7, 0, 5, 491), 6);
            Due.are("the ORDER", Books.order(x, 6), 5, Books.WAITING, 491, 0, 0);
        });
        String market = "a MARKET one (it isn't an ORDER, and never RESTS) GOES IN without limit.";
        PHASES.holds(market, "BUY at 999, SELL at 1", Books::opened, x -> {
            x.limit(0, 1, 5, 999, 0);
            x.limit(0, 0, 5, 1, 0);
            Due.is("BUY", x.market(1, 0, 5), 5);
            Due.is("SELL", x.market(1, 1, 5), 5);
        });
        PHASES.holds(market, "nothing there: it is no ORDER, and doesn't REST", Books::opened, x -> {
            x.market(1, 0, 5);
            Due.is("status(0)", x.status(0), 0);
            Due.is("status(1)", x.status(1), 0);
            Due.is("a SELL then", x.market(2, 1, 5), 0);
        });
    }

    private static void goesInTo() {
        String goesIn = "To GO IN: as long as it has something LEFT and the first by RANK on the other SIDE"
                + " has a PRICE within the limit (BUY: not above; SELL: not below):";
        PHASES.holds(goesIn, "BUY: at its limit, not above", Books::opened, x -> {
            x.limit(0, 1, 5, 500, 0);
            x.limit(0, 1, 5, 501, 0);
            x.limit(1, 0, 9, 500, 0);
            Due.are("the one that came", Books.order(x, 2), 4, Books.RESTING, 500, 4, 5);
            Due.is("the one above", x.orderOf(1, 3), 5);
        });
        PHASES.holds(goesIn, "SELL: at its limit, not below", Books::opened, x -> {
            x.limit(0, 0, 5, 500, 0);
            x.limit(0, 0, 5, 499, 0);
            x.limit(1, 1, 9, 500, 0);
            Due.are("the one that came", Books.order(x, 2), 4, Books.RESTING, 500, 4, 5);
            Due.is("the one below", x.orderOf(1, 3), 5);
        });
        PHASES.holds(goesIn, "limits 1 and 999", Books::opened, x -> {
            x.limit(0, 1, 5, 1, 0);
            x.limit(1, 0, 5, 1, 0);
            Due.is("BUY at 1", x.trades(), 1);
            x.limit(0, 0, 5, 999, 0);
            x.limit(1, 1, 5, 999, 0);
            Due.is("SELL at 999", x.trades(), 2);
        });
        PHASES.holds(goesIn, "the first by RANK, not the first that came", Books::opened, x -> {
            x.limit(0, 1, 5, 501, 0);
            x.limit(0, 1, 5, 500, 0);
            x.limit(1, 0, 5, 501, 0);
            Due.are("the trade", Books.trade(x, 0), 2, 1, 500, 5);
        });
        PHASES.holds(goesIn, "of one PRICE the first by TIME", Books::opened, x -> {
            x.limit(0, 1, 5, 500, 0);
            x.limit(0, 1, 5, 500, 0);
            x.amend(0, 6, 500);
            x.limit(1, 0, 5, 500, 0);
            Due.are("the trade", Books.trade(x, 0), 2, 1, 500, 5);
        });
    }

    private static void goesInTill() {
        String goesIn = "To GO IN: as long as it has something LEFT and the first by RANK on the other SIDE"
                + " has a PRICE within the limit (BUY: not above; SELL: not below):";
        PHASES.holds(goesIn, "nothing LEFT: the next one is not touched", Books::opened, x -> {
            x.limit(0, 1, 5, 500, 0);
            x.limit(0, 1, 5, 500, 0);
            x.limit(1, 0, 5, 500, 0);
            Due.is("trades()", x.trades(), 1);
            Due.is("the next one", x.orderOf(1, 3), 5);
        });
        PHASES.holds(goesIn, "nothing on the other SIDE", Books::opened, x -> {
            x.limit(0, 0, 5, 500, 0);
            x.limit(1, 0, 5, 999, 0);
            Due.is("trades()", x.trades(), 0);
            Due.is("status(1)", x.status(1), 2);
        });
        PHASES.holds(goesIn, "all of the other SIDE", Books::opened, x -> {
            x.limit(0, 1, 5, 500, 0);
            x.limit(0, 1, 5, 600, 0);
            x.limit(1, 0, 11, 999, 0);
            Due.are("the one that came", Books.order(x, 2), 1, Books.RESTING, 999, 1, 10);
        });
        PHASES.holds(goesIn, "999 trades in one call", Books::opened, x -> {
            x.hidden(0, 1, 999, 500, 1);
            x.limit(1, 0, 999, 500, 0);
            Due.is("trades()", x.trades(), 999);
            Due.is("FILLED", x.orderOf(1, 4), Books.FILLED);
        });
        PHASES.holds(goesIn, "59 ORDERS in one call", Books::opened, x -> {
            for (int i = 0; i < 59; i++) {
                x.limit(0, 1, 1, 500 + i, 0);
            }
            x.limit(1, 0, 60, 999, 0);
            Due.are("the one that came", Books.order(x, 59), 1, Books.RESTING, 999, 1, 59);
        });
    }

    /** OWNER 0 sells 5 at 500, OWNER 1 sells 5 at 501, by a RULE. */
    private static UncrossedBook ownFirst(int rule) {
        UncrossedBook x = Books.opened();
        x.limit(0, 1, 5, 500, 0);
        x.limit(1, 1, 5, 501, 0);
        x.rule(rule);
        return x;
    }

    private static void ruleAll() {
        String same = "if that has the same OWNER, by RULE: 0: they trade all the same;";
        PHASES.holds(same, "with oneself", () -> ownFirst(0), x -> {
            x.limit(0, 0, 5, 500, 0);
            Due.are("the trade", Books.trade(x, 0), 2, 0, 500, 5);
            Due.is("position(0)", x.position(0), 1000000);
        });
        PHASES.holds(same, "another OWNER: no RULE tells", () -> ownFirst(1), x -> {
            x.limit(2, 0, 5, 500, 0);
            Due.are("the trade", Books.trade(x, 0), 2, 0, 500, 5);
        });
    }

    private static void ruleComer() {
        String stops = "1: it stops, and what is LEFT of it is GONE;";
        PHASES.holds(stops, "at the first", () -> ownFirst(1), x -> {
            x.limit(0, 0, 9, 501, 0);
            Due.are("the one that came", Books.order(x, 2), 9, Books.GONE, 501, 0, 0);
            Due.is("the one that was there", x.orderOf(0, 3), 5);
        });
        PHASES.holds(stops, "behind another", () -> ownFirst(1), x -> {
            x.limit(1, 0, 9, 501, 0);
            Due.are("the one that came", Books.order(x, 2), 4, Books.GONE, 501, 0, 5);
            Due.is("the one that was there", x.orderOf(1, 3), 5);
        });
        PHASES.holds(stops, "not where it is FILLED ahead of that", () -> ownFirst(1), x -> {
            x.limit(1, 0, 5, 501, 0);
            Due.are("the one that came", Books.order(x, 2), 0, Books.FILLED, 501, 0, 5);
        });
        PHASES.holds(stops, "not where that is beyond its limit", () -> ownFirst(1), x -> {
            x.limit(0, 0, 9, 499, 0);
            Due.are("the one that came", Books.order(x, 2), 9, Books.RESTING, 499, 9, 0);
        });
        PHASES.holds(stops, "a MARKET one, a HIDDEN one", () -> ownFirst(1), x -> {
            Due.is("market", x.market(0, 0, 9), 0);
            x.hidden(0, 0, 9, 501, 1);
            Due.are("the HIDDEN one", Books.order(x, 2), 9, Books.GONE, 501, 0, 0);
        });
    }

    private static void ruleRester() {
        String gone = "2: that one is GONE, and it goes on;";
        PHASES.holds(gone, "to the next", () -> ownFirst(2), x -> {
            x.limit(0, 0, 9, 501, 0);
            Due.are("the one that was there", Books.order(x, 0), 5, Books.GONE, 500, 0, 0);
            Due.are("the one that came", Books.order(x, 2), 4, Books.RESTING, 501, 4, 5);
        });
        PHASES.holds(gone, "each of them, till there is none", () -> ownFirst(2), x -> {
            x.limit(0, 1, 5, 502, 0);
            x.cancel(1);
            x.limit(0, 0, 1, 999, 0);
            Due.is("first", x.orderOf(0, 4), Books.GONE);
            Due.is("second", x.orderOf(2, 4), Books.GONE);
            Due.are("the one that came", Books.order(x, 3), 1, Books.RESTING, 999, 1, 0);
        });
        PHASES.holds(gone, "not one that is beyond its limit", () -> ownFirst(2), x -> {
            x.limit(0, 0, 9, 499, 0);
            Due.is("the one that was there", x.orderOf(0, 4), Books.RESTING);
        });
        PHASES.holds(gone, "not one behind that by which it is FILLED", () -> ownFirst(2), x -> {
            x.limit(1, 0, 5, 501, 0);
            Due.is("the one that was there", x.orderOf(1, 4), Books.RESTING);
        });
    }

    private static void ruleBoth() {
        String both = "3: both have less LEFT by the lesser of what is LEFT of both,"
                + " and who has nothing LEFT then is GONE";
        PHASES.holds(both, "the one that came has less", () -> ownFirst(3), x -> {
            x.limit(0, 0, 4, 501, 0);
            Due.are("the one that came", Books.order(x, 2), 0, Books.GONE, 501, 0, 0);
            Due.are("the one that was there", Books.order(x, 0), 1, Books.RESTING, 500, 1, 0);
        });
        PHASES.holds(both, "both have as much", () -> ownFirst(3), x -> {
            x.limit(0, 0, 5, 501, 0);
            Due.are("the one that came", Books.order(x, 2), 0, Books.GONE, 501, 0, 0);
            Due.are("the one that was there", Books.order(x, 0), 0, Books.GONE, 500, 0, 0);
            Due.is("the next", x.orderOf(1, 3), 5);
        });
        PHASES.holds(both, "the one that was there has less: it goes on", () -> ownFirst(3), x -> {
            x.limit(0, 0, 6, 501, 0);
            Due.are("the one that was there", Books.order(x, 0), 0, Books.GONE, 500, 0, 0);
            Due.are("the one that came", Books.order(x, 2), 0, Books.FILLED, 501, 0, 1);
        });
        PHASES.holds(both, "behind another", () -> ownFirst(3), x -> {
            x.limit(1, 0, 8, 501, 0);
            Due.are("the one that came", Books.order(x, 2), 0, Books.GONE, 501, 0, 5);
            Due.are("the one that was there", Books.order(x, 1), 2, Books.RESTING, 501, 2, 0);
        });
        PHASES.holds(both, "nothing is traded, and its TIME stays", () -> ownFirst(3), x -> {
            x.limit(1, 1, 5, 500, 0);
            x.limit(0, 0, 4, 500, 0);
            Due.is("trades()", x.trades(), 0);
            Due.is("position(0)", x.position(0), 1000000);
            Due.are("SELLS", Books.line(x, 1), 0, 2, 1);
        });
    }

    private static void ruleBothHidden() {
        String visible = "and who has nothing LEFT then is GONE"
                + " (VISIBLE of a HIDDEN one is what there is LEFT at most);";
        int[] takes = {14, 15, 16};
        int[] sees = {5, 5, 4};
        for (int i = 0; i < 3; i++) {
            int take = takes[i];
            int see = sees[i];
            PHASES.holds(visible, "5 VISIBLE of 20, less " + take, Books::opened, x -> {
                x.hidden(0, 1, 20, 500, 5);
                x.rule(3);
                x.limit(0, 0, take, 500, 0);
                Due.are("the HIDDEN one", Books.order(x, 0), 20 - take, Books.RESTING, 500, see, 0);
            });
        }
        PHASES.holds(visible, "what was traded of it stays so", Books::opened, x -> {
            x.hidden(0, 1, 20, 500, 5);
            x.market(1, 0, 2);
            x.rule(3);
            x.limit(0, 0, 10, 500, 0);
            Due.are("the HIDDEN one", Books.order(x, 0), 8, Books.RESTING, 500, 3, 2);
        });
        PHASES.holds(visible, "a HIDDEN one that came: at first of what is LEFT", Books::opened, x -> {
            x.limit(0, 1, 6, 500, 0);
            x.rule(3);
            x.hidden(0, 0, 9, 500, 5);
            Due.are("the HIDDEN one", Books.order(x, 1), 3, Books.RESTING, 500, 3, 0);
        });
    }

    private static void trade() {
        String trade = "else they TRADE the less of LEFT and that one's VISIBLE, at that one's PRICE:";
        PHASES.holds(trade, "LEFT below, as much as, above VISIBLE", Books::opened, x -> {
            x.hidden(0, 1, 20, 500, 5);
            x.limit(1, 0, 4, 501, 0);
            Due.are("below", Books.trade(x, 0), 1, 0, 500, 4);
            x.limit(1, 0, 1, 501, 0);
            Due.are("as much", Books.trade(x, 1), 2, 0, 500, 1);
            x.limit(1, 0, 6, 501, 0);
            Due.are("above", Books.trade(x, 2), 3, 0, 500, 5);
            Due.are("what was above", Books.trade(x, 3), 3, 0, 500, 1);
        });
        PHASES.holds(trade, "a HIDDEN one that comes trades all it has LEFT", Books::opened, x -> {
            x.limit(0, 1, 9, 500, 0);
            x.hidden(1, 0, 8, 500, 1);
            Due.are("the trade", Books.trade(x, 0), 1, 0, 500, 8);
        });
        String filled = "who has nothing LEFT then is FILLED.";
        PHASES.holds(filled, "the one that came", Books::opened, x -> {
            x.limit(0, 1, 5, 500, 0);
            x.limit(1, 0, 4, 500, 0);
            Due.is("that was there", x.orderOf(0, 4), Books.RESTING);
            Due.is("that came", x.orderOf(1, 4), Books.FILLED);
        });
        PHASES.holds(filled, "the one that was there", Books::opened, x -> {
            x.limit(0, 1, 4, 500, 0);
            x.limit(1, 0, 5, 500, 0);
            Due.is("that was there", x.orderOf(0, 4), Books.FILLED);
            Due.is("that came", x.orderOf(1, 4), Books.RESTING);
        });
        PHASES.holds(filled, "both", Books::opened, x -> {
            x.limit(0, 1, 5, 500, 0);
            x.limit(1, 0, 5, 500, 0);
            Due.is("that was there", x.orderOf(0, 4), Books.FILLED);
            Due.is("that came", x.orderOf(1, 4), Books.FILLED);
        });
        PHASES.holds(filled, "not a HIDDEN one of which nothing was VISIBLE", Books::opened, x -> {
            x.hidden(0, 1, 5, 500, 4);
            x.market(1, 0, 4);
            Due.are("the HIDDEN one", Books.order(x, 0), 1, Books.RESTING, 500, 1, 4);
            x.market(1, 0, 1);
            Due.are("the HIDDEN one", Books.order(x, 0), 0, Books.FILLED, 500, 0, 5);
        });
    }

    private static void rest() {
        String rests = "What is LEFT then comes to REST (of a MARKET one it is GONE).";
        PHASES.holds(rests, "1 is LEFT", Books::opened, x -> {
            x.limit(0, 1, 5, 500, 0);
            x.limit(1, 0, 6, 500, 0);
            Due.are("the one that came", Books.order(x, 1), 1, Books.RESTING, 500, 1, 5);
            Due.are("BUYS", Books.line(x, 0), 1);
        });
        PHASES.holds(rests, "nothing is LEFT", Books::opened, x -> {
            x.limit(0, 1, 5, 500, 0);
            x.limit(1, 0, 5, 500, 0);
            Due.is("status(1)", x.status(1), 0);
        });
        PHASES.holds(rests, "a MARKET one's", Books::opened, x -> {
            x.limit(0, 1, 5, 500, 0);
            x.market(1, 0, 6);
            Due.is("status(1)", x.status(1), 0);
            Due.is("a SELL finds nothing", x.market(2, 1, 1), 0);
        });
    }

    private static void now() {
        String now = "NOW ones (LIMIT) GO IN, and what is LEFT is GONE.";
        PHASES.holds(now, "1 is LEFT", Books::opened, x -> {
            x.limit(0, 1, 5, 500, 0);
            x.limit(1, 0, 6, 500, 1);
            Due.are("the NOW one", Books.order(x, 1), 1, Books.GONE, 500, 0, 5);
        });
        PHASES.holds(now, "nothing is LEFT: FILLED", Books::opened, x -> {
            x.limit(0, 1, 5, 500, 0);
            x.limit(1, 0, 5, 500, 1);
            Due.are("the NOW one", Books.order(x, 1), 0, Books.FILLED, 500, 0, 5);
        });
        PHASES.holds(now, "all is LEFT: 1 beyond its limit", Books::opened, x -> {
            x.limit(0, 1, 5, 500, 0);
            x.limit(1, 0, 5, 499, 1);
            Due.are("the NOW one", Books.order(x, 1), 5, Books.GONE, 499, 0, 0);
        });
        PHASES.holds(now, "nothing LEFT by RULE 3: GONE", () -> ownFirst(3), x -> {
            x.limit(0, 0, 5, 500, 1);
            Due.are("the NOW one", Books.order(x, 2), 0, Books.GONE, 500, 0, 0);
        });
        String auction = "In the AUCTION NOW and ALL ones are GONE at once.";
        PHASES.holds(auction, "with what they could trade with", x -> {
            x.limit(0, 1, 5, 500, 0);
            Due.is("NOW", x.limit(1, 0, 5, 500, 1), 1);
            Due.is("ALL", x.limit(1, 0, 5, 500, 2), 2);
            Due.are("the NOW one", Books.order(x, 1), 5, Books.GONE, 500, 0, 0);
            Due.are("the ALL one", Books.order(x, 2), 5, Books.GONE, 500, 0, 0);
        });
        PHASES.holds(auction, "after a close() too", Books::richAuction, x -> {
            x.limit(1, 0, 5, 510, 1);
            x.limit(1, 0, 5, 510, 2);
            Due.is("NOW", x.orderOf(6, 4), Books.GONE);
            Due.is("ALL", x.orderOf(7, 4), Books.GONE);
        });
    }

    /** What becomes of an ALL one of OWNER 0: its STATE, what is LEFT, what it traded. */
    private static void allOf(String sentence, String edge, java.util.function.Supplier<UncrossedBook> from,
            int quantity, int price, long... due) {
        PHASES.holds(sentence, edge, from, x -> {
            int o = x.limit(0, 0, quantity, price, 2);
            Due.are("the ALL one", new long[] {x.orderOf(o, 4), x.orderOf(o, 3), x.orderOf(o, 7)}, due);
        });
    }

    private static final String ALL = "ALL ones (LIMIT): if what is LEFT of all on the other SIDE that have a PRICE"
            + " within the limit and (but by RULE 0) another OWNER is less than its QUANTITY together,"
            + " it is GONE at once;";

    /** OWNER 1 sells 5 at 500, 20 at 501 (2 VISIBLE), 5 at 502. */
    private static UncrossedBook sells() {
        UncrossedBook x = Books.opened();
        x.limit(1, 1, 5, 500, 0);
        x.hidden(1, 1, 20, 501, 2);
        x.limit(1, 1, 5, 502, 0);
        return x;
    }

    private static void all() {
        allOf(ALL, "as much as its QUANTITY", EdgePhasesTest::sells, 25, 501, Books.FILLED, 0, 25);
        allOf(ALL, "1 less than its QUANTITY", EdgePhasesTest::sells, 26, 501, Books.GONE, 26, 0);
        allOf(ALL, "1 more than its QUANTITY", EdgePhasesTest::sells, 24, 501, Books.FILLED, 0, 24);
        allOf(ALL, "at its limit alone", EdgePhasesTest::sells, 5, 500, Books.FILLED, 0, 5);
        allOf(ALL, "not above its limit", EdgePhasesTest::sells, 6, 500, Books.GONE, 6, 0);
        allOf(ALL, "nothing within the limit", EdgePhasesTest::sells, 1, 499, Books.GONE, 1, 0);
        allOf(ALL, "nothing on the other SIDE", Books::opened, 1, 999, Books.GONE, 1, 0);
        PHASES.holds(ALL, "a SELL: not below its limit", Books::opened, x -> {
            x.limit(1, 0, 5, 500, 0);
            x.limit(1, 0, 5, 499, 0);
            x.limit(0, 1, 6, 500, 2);
            x.limit(0, 1, 5, 500, 2);
            Due.is("6", x.orderOf(2, 4), Books.GONE);
            Due.is("5", x.orderOf(3, 4), Books.FILLED);
        });
        allOf(ALL, "it is the 60th ORDER", () -> {
            UncrossedBook x = Books.withOrders(57);
            x.uncross();
            x.limit(1, 1, 5, 500, 0);
            x.limit(1, 1, 5, 500, 0);
            return x;
        }, 10, 500, Books.FILLED, 0, 10);
        PHASES.holds(ALL, "nothing else changes by it", Books::rich, x -> {
            x.limit(0, 0, 6, 510, 2);
            Due.is("trades()", x.trades(), 2);
            Due.is("orderOf(0, 3)", x.orderOf(0, 3), 5);
            Due.is("status(1)", x.status(1), 3);
        });
    }

    private static UncrossedBook withOwn(int rule) {
        UncrossedBook x = sells();
        x.limit(0, 1, 3, 502, 0);
        x.rule(rule);
        return x;
    }

    private static void allCounts() {
        allOf(ALL, "by RULE 0 what is one's own counts", () -> withOwn(0), 33, 502, Books.FILLED, 0, 33);
        for (int rule = 1; rule < 4; rule++) {
            int byRule = rule;
            allOf(ALL, "by RULE " + rule + " what is one's own doesn't", () -> withOwn(byRule), 31, 502,
                    Books.GONE, 31, 0);
            allOf(ALL, "by RULE " + rule + " what others have does", () -> withOwn(byRule), 30, 502,
                    Books.FILLED, 0, 30);
        }
    }

    private static UncrossedBook withPegged(int offset) {
        UncrossedBook x = Books.opened();
        x.limit(1, 1, 5, 950, 0);
        x.pegged(1, 1, 5, offset);
        return x;
    }

    private static void allOthers() {
        allOf(ALL, "a PEGGED one within the limit counts", () -> withPegged(49), 10, 999, Books.GONE, 5, 5);
        allOf(ALL, "a PEGGED one above the limit doesn't", () -> withPegged(49), 6, 998, Books.GONE, 6, 0);
        allOf(ALL, "a PEGGED one without a PRICE doesn't", () -> withPegged(50), 6, 999, Books.GONE, 6, 0);
        allOf(ALL, "a STOP doesn't", () -> {
            UncrossedBook x = sells();
            x.halt(1, 1, 9, 100);
            return x;
        }, 31, 999, Books.GONE, 31, 0);
        allOf(ALL, "one that is GONE doesn't", () -> {
            UncrossedBook x = sells();
            x.cancel(2);
            return x;
        }, 26, 999, Books.GONE, 26, 0);
        allOf(ALL, "one that came behind THE IMAGE doesn't, when that was restored", () -> {
            UncrossedBook x = sells();
            x.image();
            x.limit(1, 1, 9, 500, 0);
            x.limit(1, 1, 9, 500, 0);
            x.restore();
            return x;
        }, 31, 999, Books.GONE, 31, 0);
        allOf(ALL, "its own SIDE doesn't", () -> {
            UncrossedBook x = sells();
            x.limit(1, 0, 9, 499, 0);
            return x;
        }, 31, 999, Books.GONE, 31, 0);
    }

    private static void allGoesIn() {
        String left = "else it GOES IN, and what is LEFT is GONE.";
        allOf(left, "nothing is LEFT", EdgePhasesTest::sells, 30, 999, Books.FILLED, 0, 30);
        allOf(left, "a PEGGED one counted, and has no PRICE then", () -> withPegged(0), 10, 999, Books.GONE, 5, 5);
        allOf(left, "RULE 1 stops it at its own", () -> {
            UncrossedBook x = sells();
            x.limit(0, 1, 3, 501, 0);
            x.rule(1);
            return x;
        }, 25, 501, Books.GONE, 18, 7);
        PHASES.holds(left, "by RULE 3 its own takes some of it", () -> withOwn(3), x -> {
            x.amend(3, 3, 500);
            int o = x.limit(0, 0, 8, 500, 2);
            Due.is("5 are enough for 5 alone", x.orderOf(o, 3), 8);
            o = x.limit(0, 0, 5, 500, 2);
            Due.are("the ALL one", Books.order(x, o), 0, Books.FILLED, 500, 0, 5);
        });
    }

    private static void stops() {
        String when = "When one that came is done and it is OPEN: as long as there is a STOP WAITING that is REACHED";
        PHASES.holds(when, "a LIMIT one reached it, and is done first", Books::opened, x -> {
            x.limit(0, 1, 9, 500, 0);
            x.halt(2, 0, 2, 500);
            x.limit(1, 0, 3, 500, 0);
            Due.are("the one that came", Books.trade(x, 0), 2, 0, 500, 3);
            Due.are("the STOP", Books.trade(x, 1), 1, 0, 500, 2);
        });
        PHASES.holds(when, "what came RESTS first: the STOP may trade with it", Books::opened, x -> {
            x.limit(0, 1, 1, 500, 0);
            x.halt(2, 1, 2, 500);
            x.limit(1, 0, 3, 500, 0);
            Due.are("the STOP", Books.trade(x, 1), 2, 1, 500, 2);
            Due.is("the one that came", x.orderOf(2, 4), Books.FILLED);
        });
        PHASES.holds(when, "a MARKET, a NOW, an ALL, a HIDDEN one reach it", Books::opened, x -> {
            x.limit(0, 1, 9, 500, 0);
            for (int i = 0; i < 4; i++) {
                int stop = x.halt(2, 1, 1, 500);
                Due.is("it WAITS", x.orderOf(stop, 4), Books.WAITING);
                x.image();
                int came = i == 0 ? x.market(1, 0, 1) : i < 3 ? x.limit(1, 0, 1, 500, i) : x.hidden(1, 0, 1, 500, 1);
                Due.is("it went in, " + came, x.orderOf(stop, 4), Books.GONE);
                x.restore();
                x.cancel(stop);
            }
        });
        PHASES.holds(when, "each of a TEXT's ITEMS is done by itself", Books::opened, x -> {
            x.halt(2, 0, 1, 500);
            Books.readText(x, "a-2@500;b+1@500;c+1@500");
            Due.is("the STOP ahead of the third", x.trade(1, 0), 0);
            Due.is("the third RESTS", x.orderOf(3, 4), Books.RESTING);
        });
        PHASES.holds(when, "one STOP reaches the next", Books::opened, x -> {
            x.limit(0, 1, 1, 500, 0);
            x.limit(0, 1, 1, 501, 0);
            x.limit(0, 1, 1, 502, 0);
            x.halt(2, 0, 1, 500);
            x.halt(2, 0, 1, 501);
            x.market(1, 0, 1);
            Due.is("trades()", x.trades(), 3);
            Due.is("status(5)", x.status(5), 502);
        });
        PHASES.holds(when, "59 STOPS go in by one call", Books::opened, x -> {
            for (int i = 0; i < 59; i++) {
                x.halt(2, 0, 1, 500);
            }
            x.limit(0, 1, 60, 500, 0);
            Due.is("market", x.market(1, 0, 1), 1);
            Due.is("trades()", x.trades(), 60);
            Due.is("status(2)", x.status(2), 0);
        });
        PHASES.holds(when, "a call that lets nothing come: none goes in", Books::richAuction, x -> {
            x.halt(7, 1, 1, 490);
            x.rule(0);
            x.cancel(0);
            x.image();
            x.restore();
            Due.is("it WAITS", x.orderOf(6, 4), Books.WAITING);
        });
    }

    private static void reached(String edge, int side, int trigger, int last, int state) {
        PHASES.holds("(LAST isn't 0; BUY: LAST is TRIGGER or above; SELL: TRIGGER or below),", edge,
                () -> last == 0 ? Books.opened() : Books.openedAt(last), x -> {
            int stop = x.halt(0, side, 1, trigger);
            Due.is("its STATE", x.orderOf(stop, 4), state);
        });
    }

    private static void stopsReached() {
        reached("LAST 0: no SELL, of any TRIGGER", 1, 999, 0, Books.WAITING);
        reached("LAST 0: no SELL of TRIGGER 1", 1, 1, 0, Books.WAITING);
        reached("LAST 0: no BUY of TRIGGER 1", 0, 1, 0, Books.WAITING);
        reached("BUY: LAST is TRIGGER", 0, 500, 500, Books.GONE);
        reached("BUY: LAST is 1 above", 0, 499, 500, Books.GONE);
        reached("BUY: LAST is 1 below", 0, 501, 500, Books.WAITING);
        reached("SELL: LAST is TRIGGER", 1, 500, 500, Books.GONE);
        reached("SELL: LAST is 1 below", 1, 501, 500, Books.GONE);
        reached("SELL: LAST is 1 above", 1, 499, 500, Books.WAITING);
        reached("BUY of TRIGGER 1, LAST 1", 0, 1, 1, Books.GONE);
        reached("SELL of TRIGGER 999, LAST 999", 1, 999, 999, Books.GONE);
        reached("SELL of TRIGGER 1, LAST 2", 1, 1, 2, Books.WAITING);
        reached("BUY of TRIGGER 999, LAST 998", 0, 999, 998, Books.WAITING);
    }

    private static void stopsInTurn() {
        String least = "that of least number GOES IN without limit (RULE holds), and what is LEFT is GONE.";
        PHASES.holds(least, "of two the lesser number", Books::opened, x -> {
            x.limit(0, 1, 2, 500, 0);
            x.limit(0, 1, 1, 501, 0);
            x.halt(2, 0, 1, 499);
            x.halt(3, 0, 1, 500);
            x.market(1, 0, 1);
            Due.is("first", x.trade(1, 0), 2);
            Due.is("second", x.trade(2, 0), 3);
        });
        PHASES.holds(least, "one that is REACHED later goes ahead of a greater number", Books::opened, x -> {
            x.limit(0, 1, 1, 500, 0);
            x.limit(0, 1, 9, 501, 0);
            x.halt(2, 0, 1, 501);
            x.halt(3, 0, 1, 500);
            x.halt(4, 0, 1, 500);
            x.market(1, 0, 1);
            Due.is("first", x.trade(1, 0), 3);
            Due.is("second: its TRIGGER was reached just now", x.trade(2, 0), 2);
            Due.is("third", x.trade(3, 0), 4);
        });
        PHASES.holds(least, "a BUY and a SELL", () -> Books.openedAt(500), x -> {
            x.close();
            x.limit(0, 1, 5, 510, 0);
            x.limit(0, 0, 5, 490, 0);
            x.halt(2, 1, 1, 500);
            x.halt(3, 0, 1, 500);
            x.uncross();
            Due.are("first", Books.trade(x, 1), 2, 3, 490, 1);
            Due.is("LAST is 490: the other WAITS", x.orderOf(4, 4), Books.WAITING);
        });
    }

    private static void stopsGoIn() {
        String goes = "that of least number GOES IN without limit (RULE holds), and what is LEFT is GONE.";
        PHASES.holds(goes, "BUY at 999", () -> Books.openedAt(500), x -> {
            x.limit(0, 1, 5, 999, 0);
            int stop = x.halt(1, 0, 2, 500);
            Due.are("the STOP", Books.order(x, stop), 0, Books.FILLED, 500, 0, 2);
        });
        PHASES.holds(goes, "SELL at 1", () -> Books.openedAt(500), x -> {
            x.limit(0, 0, 5, 1, 0);
            int stop = x.halt(1, 1, 2, 500);
            Due.are("the STOP", Books.order(x, stop), 0, Books.FILLED, 500, 0, 2);
        });
        PHASES.holds(goes, "1 is LEFT", () -> Books.openedAt(500), x -> {
            x.limit(0, 1, 5, 510, 0);
            int stop = x.halt(1, 0, 6, 500);
            Due.are("the STOP", Books.order(x, stop), 1, Books.GONE, 500, 0, 5);
        });
        PHASES.holds(goes, "nothing is there: all is LEFT", () -> Books.openedAt(500), x -> {
            int stop = x.halt(1, 0, 6, 500);
            Due.are("the STOP", Books.order(x, stop), 6, Books.GONE, 500, 0, 0);
        });
        for (int rule = 0; rule < 4; rule++) {
            int byRule = rule;
            long[][] due = {{0, Books.FILLED, 6}, {6, Books.GONE, 0}, {4, Books.GONE, 2}, {1, Books.GONE, 2}};
            PHASES.holds(goes, "RULE " + rule + " with its own", () -> Books.openedAt(500), x -> {
                x.limit(1, 1, byRule == 0 ? 9 : 3, 510, 0);
                x.limit(0, 1, 2, 520, 0);
                x.rule(byRule);
                int stop = x.halt(1, 0, 6, 500);
                Due.are("the STOP", new long[] {x.orderOf(stop, 3), x.orderOf(stop, 4), x.orderOf(stop, 7)},
                        due[byRule]);
            });
        }
    }
}
