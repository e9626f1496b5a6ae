/** Promises 9 to 13: orders that come. */
public final class ComingTest {
    private ComingTest() {
    }

    public static void main(String[] args) {
        limitInTheAuction();
        limitGoesIn();
        limitSells();
        limitRefusals();
        now();
        all();
        allCounts();
        allOfOthers();
        longest();
        hidden();
        hiddenComesRound();
        hiddenRefusals();
        pegged();
        peggedRank();
        peggedRefusals();
        halt();
        haltChain();
        haltRefusals();
        market();
        marketRefusals();
        ruleAll();
        ruleComer();
        ruleRester();
        ruleBoth();
        room();
        Due.end();
    }

    private static void limitInTheAuction() {
        UncrossedBook x = new UncrossedBook();
        Due.is("9: first", x.limit(0, 0, 5, 510, 0), 0);
        Due.is("9: second", x.limit(1, 1, 5, 490, 0), 1);
        Due.is("9: nothing trades", x.trades(), 0);
        Due.are("9: rests", Books.order(x, 1), 5, Books.RESTING, 490, 5, 0);
        Due.is("9: now", x.limit(2, 0, 5, 510, 1), 2);
        Due.is("9: all", x.limit(2, 0, 5, 510, 2), 3);
        Due.are("9: now is gone", Books.order(x, 2), 5, Books.GONE, 510, 0, 0);
        Due.are("9: all is gone", Books.order(x, 3), 5, Books.GONE, 510, 0, 0);
        Due.is("9: orders", x.status(0), 4);
        Due.is("9: resting", x.status(1), 2);
    }

    private static void limitGoesIn() {
        UncrossedBook x = Books.opened();
        x.limit(0, 1, 5, 501, 0);
        x.limit(1, 1, 5, 500, 0);
        x.limit(2, 1, 5, 500, 0);
        x.limit(3, 1, 5, 502, 0);
        Due.is("9: comes", x.limit(4, 0, 17, 501, 0), 4);
        Due.is("9: trades", x.trades(), 3);
        Due.are("9: first by price, time", Books.trade(x, 0), 4, 1, 500, 5);
        Due.are("9: second", Books.trade(x, 1), 4, 2, 500, 5);
        Due.are("9: third", Books.trade(x, 2), 4, 0, 501, 5);
        Due.are("9: the rest rests", Books.order(x, 4), 2, Books.RESTING, 501, 2, 15);
        Due.are("9: filled", Books.order(x, 1), 0, Books.FILLED, 500, 0, 5);
        Due.are("9: above the limit", Books.order(x, 3), 5, Books.RESTING, 502, 5, 0);
        Due.is("9: last", x.status(5), 501);
    }

    private static void limitSells() {
        UncrossedBook x = Books.opened();
        x.limit(0, 0, 5, 499, 0);
        x.limit(1, 0, 5, 500, 0);
        x.limit(2, 0, 5, 498, 0);
        Due.is("9: comes", x.limit(4, 1, 7, 499, 0), 3);
        Due.are("9: best first", Books.trade(x, 0), 1, 3, 500, 5);
        Due.are("9: then less", Books.trade(x, 1), 0, 3, 499, 2);
        Due.are("9: filled", Books.order(x, 3), 0, Books.FILLED, 499, 0, 7);
        Due.are("9: partly", Books.order(x, 0), 3, Books.RESTING, 499, 3, 2);
        Due.is("9: below the limit stays", x.orderOf(2, Books.LEFT), 5);
        x.limit(3, 0, 2, 499, 0);
        x.market(4, 1, 1);
        Due.are("9: one that traded keeps its time", Books.line(x, 0), 0, 4, 2);
    }

    private static void limitRefusals() {
        UncrossedBook x = new UncrossedBook();
        Due.is("9: owner", x.limit(-1, 0, 0, 5, 0), -1);
        Due.is("9: owner", x.limit(8, 0, 5, 5, 0), -1);
        Due.is("9: side", x.limit(0, -1, 5, 5, 3), -1);
        Due.is("9: side", x.limit(0, 2, 5, 5, 0), -1);
        Due.is("9: quantity", x.limit(0, 0, 0, 5, 0), -6);
        Due.is("9: quantity", x.limit(0, 0, 1000, 5, 0), -6);
        Due.is("9: price", x.limit(0, 0, 5, 0, 0), -6);
        Due.is("9: price", x.limit(0, 0, 5, 1000, 0), -6);
        Due.is("9: how", x.limit(0, 0, 5, 5, -1), -6);
        Due.is("9: how", x.limit(0, 0, 5, 5, 3), -6);
        Due.is("9: none came", x.status(0), 0);
        Due.is("9: the edges may be", x.limit(7, 1, 999, 999, 0), 0);
        Due.is("9: the edges may be", x.limit(0, 0, 1, 1, 2), 1);
        Due.are("9: refusals", Books.refusals(x), 4, 0, 0, 0, 0, 6, 0);
    }

    private static void now() {
        UncrossedBook x = Books.opened();
        x.limit(0, 1, 5, 500, 0);
        x.limit(0, 1, 5, 501, 0);
        Due.is("9: now", x.limit(1, 0, 8, 500, 1), 2);
        Due.are("9: what is left is gone", Books.order(x, 2), 3, Books.GONE, 500, 0, 5);
        Due.is("9: now, filled", x.limit(1, 0, 5, 999, 1), 3);
        Due.are("9: filled", Books.order(x, 3), 0, Books.FILLED, 999, 0, 5);
        Due.is("9: it is a limit one", x.orderOf(3, 0), 1);
        Due.is("9: nothing rests", x.status(1), 0);
    }

    private static void all() {
        UncrossedBook x = Books.opened();
        x.limit(0, 1, 5, 500, 0);
        x.hidden(1, 1, 20, 501, 2);
        x.limit(2, 1, 5, 502, 0);
        Due.is("9: too much", x.limit(3, 0, 26, 501, 2), 3);
        Due.are("9: gone at once", Books.order(x, 3), 26, Books.GONE, 501, 0, 0);
        Due.is("9: nothing traded", x.trades(), 0);
        Due.is("9: just enough", x.limit(3, 0, 25, 501, 2), 4);
        Due.are("9: filled", Books.order(x, 4), 0, Books.FILLED, 501, 0, 25);
        Due.is("9: one is left", x.status(1), 1);
    }

    private static void allCounts() {
        UncrossedBook x = Books.opened();
        x.limit(0, 1, 5, 500, 0);
        x.limit(1, 1, 5, 500, 0);
        x.rule(2);
        x.limit(1, 0, 6, 500, 2);
        Due.are("9: own ones don't count", Books.order(x, 2), 6, Books.GONE, 500, 0, 0);
        x.limit(1, 0, 5, 500, 2);
        Due.are("9: others do", Books.order(x, 3), 0, Books.FILLED, 500, 0, 5);
        x.rule(0);
        x.limit(1, 0, 5, 500, 2);
        Due.are("9: by rule 0 own ones too", Books.order(x, 4), 0, Books.FILLED, 500, 0, 5);
        x.limit(0, 1, 5, 500, 0);
        x.pegged(1, 1, 5, 1);
        x.pegged(1, 1, 5, 2);
        x.limit(2, 0, 10, 501, 2);
        Due.are("9: pegged ones count, yet don't trade", Books.order(x, 8), 5, Books.GONE, 501, 0, 5);
    }

    private static void allOfOthers() {
        UncrossedBook x = Books.opened();
        x.limit(0, 1, 5, 500, 0);
        x.limit(1, 1, 2, 501, 0);
        x.pegged(2, 1, 50, 99);
        x.rule(3);
        x.limit(1, 0, 5, 501, 2);
        Due.are("9: as much as others have", Books.order(x, 3), 0, Books.FILLED, 501, 0, 5);
        x = Books.opened();
        x.limit(0, 1, 5, 950, 0);
        x.pegged(2, 1, 50, 99);
        x.limit(1, 0, 6, 999, 2);
        Due.are("9: not one without a price", Books.order(x, 2), 6, Books.GONE, 999, 0, 0);
    }

    private static void longest() {
        UncrossedBook x = Books.opened();
        for (int i = 0; i < 58; i++) {
            x.limit(1, 1, 999, 1, 0);
        }
        x.hidden(0, 1, 999, 2, 1);
        x.rule(2);
        x.limit(1, 0, 999, 2, 0);
        Due.are("9: 58 go, 999 trades", Books.order(x, 59), 0, Books.FILLED, 2, 0, 999);
        Due.is("9: 58 go, 999 trades", x.trades(), 999);
        Due.is("9: nothing rests", x.status(1), 0);
    }

    private static void hidden() {
        UncrossedBook x = new UncrossedBook();
        Due.is("10: comes", x.hidden(0, 0, 20, 500, 6), 0);
        Due.are("10: show", Books.order(x, 0), 20, Books.RESTING, 500, 6, 0);
        Due.is("10: less than its show", x.hidden(0, 0, 4, 500, 6), 1);
        Due.are("10: left", Books.order(x, 1), 4, Books.RESTING, 500, 4, 0);
        Due.is("10: kind", x.orderOf(0, 0), 2);
        x = Books.opened();
        x.limit(0, 1, 5, 500, 0);
        Due.is("10: goes in", x.hidden(1, 0, 12, 500, 10), 1);
        Due.are("10: visible of what is left", Books.order(x, 1), 7, Books.RESTING, 500, 7, 5);
    }

    private static void hiddenComesRound() {
        UncrossedBook x = Books.opened();
        x.hidden(0, 0, 12, 500, 5);
        x.limit(1, 0, 3, 500, 0);
        x.market(2, 1, 3);
        Due.are("10: partly", Books.order(x, 0), 9, Books.RESTING, 500, 2, 3);
        Due.are("10: same time", Books.line(x, 0), 0, 1);
        x.market(2, 1, 2);
        Due.are("10: round", Books.order(x, 0), 7, Books.RESTING, 500, 5, 5);
        Due.are("10: new time", Books.line(x, 0), 1, 0);
        x.market(2, 1, 9);
        Due.are("10: last part", Books.order(x, 0), 1, Books.RESTING, 500, 1, 11);
        Due.is("10: in parts", x.trades(), 5);
        Due.are("10: limit one first", Books.trade(x, 2), 1, -1, 500, 3);
        Due.are("10: then what is visible", Books.trade(x, 3), 0, -1, 500, 5);
        Due.are("10: then the next part", Books.trade(x, 4), 0, -1, 500, 1);
    }

    private static void hiddenRefusals() {
        UncrossedBook x = new UncrossedBook();
        Due.is("10: owner", x.hidden(8, 0, 0, 0, 0), -1);
        Due.is("10: owner", x.hidden(-1, 0, 1, 1, 1), -1);
        Due.is("10: side", x.hidden(0, 2, 1, 1, 1), -1);
        Due.is("10: quantity", x.hidden(0, 0, 0, 1, 1), -6);
        Due.is("10: quantity", x.hidden(0, 0, 1000, 1, 1), -6);
        Due.is("10: price", x.hidden(0, 0, 1, 0, 1), -6);
        Due.is("10: price", x.hidden(0, 0, 1, 1000, 1), -6);
        Due.is("10: show", x.hidden(0, 0, 1, 1, 0), -6);
        Due.is("10: show", x.hidden(0, 0, 1, 1, 1000), -6);
        Due.is("10: edges", x.hidden(0, 0, 999, 999, 999), 0);
        Due.is("10: edges", x.hidden(0, 0, 1, 1, 1), 1);
        Due.are("10: refusals", Books.refusals(x), 3, 0, 0, 0, 0, 6, 0);
    }

    private static void pegged() {
        UncrossedBook x = Books.opened();
        Due.is("11: comes", x.pegged(0, 0, 7, 2), 0);
        Due.are("11: without a price", Books.order(x, 0), 7, Books.RESTING, 0, 7, 0);
        Due.is("11: kind", x.orderOf(0, 0), 3);
        Due.are("11: not in the rank", Books.line(x, 0));
        x.limit(1, 0, 5, 490, 0);
        x.hidden(1, 0, 5, 495, 1);
        Due.is("11: less than the best", x.orderOf(0, Books.PRICE), 493);
        x.limit(1, 0, 5, 2, 0);
        x.cancel(1);
        x.cancel(2);
        Due.is("11: not below 1", x.orderOf(0, Books.PRICE), 0);
        x.limit(1, 0, 5, 3, 0);
        Due.is("11: just 1", x.orderOf(0, Books.PRICE), 1);
        x.pegged(2, 1, 9, 99);
        x.limit(1, 1, 5, 901, 0);
        Due.is("11: not above 999", x.orderOf(5, Books.PRICE), 0);
        x.limit(1, 1, 5, 900, 0);
        Due.is("11: more than the best", x.orderOf(5, Books.PRICE), 999);
        Due.is("11: offset 0", x.pegged(2, 1, 9, 0), 8);
        Due.is("11: same as the best", x.orderOf(8, Books.PRICE), 900);
        Due.is("11: other ones don't move it", x.market(3, 0, 999), 10);
        Due.is("11: it has no price, and doesn't trade", x.orderOf(8, Books.LEFT), 9);
        Due.is("11: no price", x.orderOf(8, Books.PRICE), 0);
    }

    private static void peggedRank() {
        UncrossedBook x = new UncrossedBook();
        x.pegged(0, 0, 1, 0);
        x.pegged(0, 0, 1, 0);
        x.limit(0, 0, 1, 500, 0);
        x.limit(0, 0, 1, 499, 0);
        x.pegged(0, 0, 1, 1);
        x.hidden(0, 0, 1, 499, 1);
        Due.are("11: behind others of the same price, by time", Books.line(x, 0), 2, 0, 1, 3, 5, 4);
        x.cancel(2);
        Due.are("11: follows the best", Books.line(x, 0), 3, 5, 0, 1, 4);
    }

    private static void peggedRefusals() {
        UncrossedBook x = new UncrossedBook();
        Due.is("11: owner", x.pegged(-1, 0, 0, 1), -1);
        Due.is("11: owner", x.pegged(8, 0, 1, 1), -1);
        Due.is("11: side", x.pegged(0, -1, 1, 1), -1);
        Due.is("11: quantity", x.pegged(0, 0, 0, 1), -6);
        Due.is("11: quantity", x.pegged(0, 0, 1000, 1), -6);
        Due.is("11: offset", x.pegged(0, 0, 1, -1), -6);
        Due.is("11: offset", x.pegged(0, 0, 1, 100), -6);
        Due.is("11: edges", x.pegged(0, 0, 999, 99), 0);
        Due.is("11: edges", x.pegged(7, 1, 1, 0), 1);
        Due.are("11: refusals", Books.refusals(x), 3, 0, 0, 0, 0, 4, 0);
    }

    private static void halt() {
        UncrossedBook x = Books.opened();
        x.limit(0, 1, 10, 510, 0);
        x.limit(0, 0, 10, 490, 0);
        Due.is("12: comes", x.halt(1, 0, 4, 505), 2);
        Due.is("12: comes", x.halt(1, 1, 4, 495), 3);
        Due.are("12: waits", Books.order(x, 2), 4, Books.WAITING, 505, 0, 0);
        Due.is("12: kind", x.orderOf(2, 0), 4);
        Due.is("12: waiting", x.status(2), 2);
        Due.is("12: not in the rank", x.ahead(2), -1);
        x.limit(2, 1, 2, 500, 0);
        x.market(3, 0, 2);
        Due.is("12: not reached", x.status(2), 2);
        x.limit(2, 1, 2, 505, 0);
        x.market(3, 0, 2);
        Due.are("12: reached", Books.order(x, 2), 0, Books.FILLED, 505, 0, 4);
        Due.is("12: at the other's price", x.status(5), 510);
        x.limit(2, 0, 2, 495, 0);
        x.market(3, 1, 2);
        Due.are("12: sell reached", Books.order(x, 3), 0, Books.FILLED, 495, 0, 4);
        Due.is("12: its last", x.status(5), 490);
        Due.is("12: reached when it comes", x.halt(1, 0, 9, 490), 7);
        Due.are("12: what is left is gone", Books.order(x, 7), 3, Books.GONE, 490, 0, 6);
        x.close();
        x.halt(1, 1, 9, 999);
        Due.is("12: in the auction it waits", x.orderOf(8, Books.STATE), Books.WAITING);
        x.uncross();
        Due.is("12: and goes in after", x.orderOf(8, Books.STATE), Books.GONE);
    }

    private static void haltChain() {
        UncrossedBook x = Books.opened();
        x.limit(0, 1, 1, 500, 0);
        x.limit(0, 1, 1, 501, 0);
        x.limit(0, 1, 1, 502, 0);
        x.limit(0, 1, 9, 503, 0);
        x.halt(1, 0, 1, 502);
        x.halt(2, 0, 1, 501);
        x.halt(3, 0, 1, 500);
        x.halt(4, 0, 1, 500);
        x.market(5, 0, 1);
        Due.is("12: all went in", x.trades(), 5);
        Due.are("12: least number of those reached", Books.trade(x, 1), 6, 1, 501, 1);
        Due.are("12: then what that reached", Books.trade(x, 2), 5, 2, 502, 1);
        Due.are("12: and that", Books.trade(x, 3), 4, 3, 503, 1);
        Due.are("12: the last", Books.trade(x, 4), 7, 3, 503, 1);
    }

    private static void haltRefusals() {
        UncrossedBook x = new UncrossedBook();
        Due.is("12: owner", x.halt(-1, 0, 0, 1), -1);
        Due.is("12: owner", x.halt(8, 0, 1, 1), -1);
        Due.is("12: side", x.halt(0, 2, 1, 1), -1);
        Due.is("12: quantity", x.halt(0, 0, 0, 1), -6);
        Due.is("12: quantity", x.halt(0, 0, 1000, 1), -6);
        Due.is("12: trigger", x.halt(0, 0, 1, 0), -6);
        Due.is("12: trigger", x.halt(0, 0, 1, 1000), -6);
        Due.is("12: edges", x.halt(0, 0, 999, 999), 0);
        Due.is("12: edges", x.halt(7, 1, 1, 1), 1);
        Due.are("12: refusals", Books.refusals(x), 3, 0, 0, 0, 0, 4, 0);
    }

    private static void market() {
        UncrossedBook x = Books.opened();
        Due.is("13: nothing there", x.market(0, 0, 5), 0);
        x.limit(0, 1, 5, 999, 0);
        x.limit(0, 0, 5, 1, 0);
        Due.is("13: some", x.market(1, 0, 3), 3);
        Due.is("13: what there is", x.market(1, 0, 999), 2);
        Due.is("13: a sell", x.market(1, 1, 999), 5);
        Due.are("13: number of a buy", Books.trade(x, 0), -1, 0, 999, 3);
        Due.are("13: number of a sell", Books.trade(x, 2), 1, -1, 1, 5);
        Due.is("13: it is no order", x.status(0), 2);
        Due.is("13: never rests", x.status(1), 0);
        x.halt(2, 0, 1, 2);
        x.limit(0, 1, 1, 1, 0);
        x.limit(0, 1, 1, 2, 0);
        x.limit(0, 1, 1, 3, 0);
        Due.is("13: not what stops trade", x.market(1, 0, 2), 2);
        Due.is("13: the stop went in", x.orderOf(2, Books.TRADED), 1);
    }

    private static void marketRefusals() {
        UncrossedBook x = new UncrossedBook();
        Due.is("13: owner", x.market(-1, 0, 0), -1);
        Due.is("13: owner", x.market(8, 0, 1), -1);
        Due.is("13: side", x.market(0, 2, 1), -1);
        Due.is("13: in the auction", x.market(0, 0, 1), -6);
        x.uncross();
        Due.is("13: quantity", x.market(0, 0, 0), -6);
        Due.is("13: quantity", x.market(0, 0, 1000), -6);
        Due.is("13: edges", x.market(0, 0, 999), 0);
        Due.are("13: refusals", Books.refusals(x), 3, 0, 0, 0, 0, 3, 0);
    }

    /** Owner 0 has 5 at 500 (a hidden one that shows 2), owner 1 has 5 at 501. */
    private static UncrossedBook ownFirst(int rule) {
        UncrossedBook x = Books.opened();
        x.hidden(0, 1, 5, 500, 2);
        x.limit(1, 1, 5, 501, 0);
        x.rule(rule);
        return x;
    }

    private static void ruleAll() {
        UncrossedBook x = ownFirst(0);
        x.limit(0, 0, 7, 501, 0);
        Due.are("9: rule 0", Books.order(x, 2), 0, Books.FILLED, 501, 0, 7);
        Due.are("9: they trade", Books.trade(x, 0), 2, 0, 500, 2);
        Due.is("9: in parts", x.trades(), 4);
        Due.is("29: with oneself", x.position(0), 1000002);
    }

    private static void ruleComer() {
        UncrossedBook x = ownFirst(1);
        x.limit(0, 0, 7, 501, 0);
        Due.are("9: rule 1", Books.order(x, 2), 7, Books.GONE, 501, 0, 0);
        Due.is("9: nothing trades", x.trades(), 0);
        x.limit(1, 0, 7, 501, 0);
        Due.are("9: rule 1, then its own", Books.order(x, 3), 2, Books.GONE, 501, 0, 5);
        Due.is("9: the other one stays", x.orderOf(1, Books.STATE), Books.RESTING);
        Due.is("13: rule 1", x.market(1, 0, 5), 0);
    }

    private static void ruleRester() {
        UncrossedBook x = ownFirst(2);
        x.limit(0, 0, 7, 501, 0);
        Due.are("9: rule 2", Books.order(x, 0), 5, Books.GONE, 500, 0, 0);
        Due.are("9: it goes on", Books.order(x, 2), 2, Books.RESTING, 501, 2, 5);
        Due.is("9: with the next", x.trades(), 1);
    }

    private static void ruleBoth() {
        UncrossedBook x = ownFirst(3);
        x.limit(0, 0, 4, 501, 0);
        Due.are("9: rule 3, the comer", Books.order(x, 2), 0, Books.GONE, 501, 0, 0);
        Due.are("9: visible at most what is left", Books.order(x, 0), 1, Books.RESTING, 500, 1, 0);
        Due.is("9: nothing trades", x.trades(), 0);
        x.limit(0, 0, 3, 501, 0);
        Due.are("9: rule 3, the resting one", Books.order(x, 0), 0, Books.GONE, 500, 0, 0);
        Due.are("9: less, and it goes on", Books.order(x, 3), 0, Books.FILLED, 501, 0, 2);
        x.limit(1, 0, 3, 501, 0);
        Due.are("9: the same, the comer", Books.order(x, 4), 0, Books.GONE, 501, 0, 0);
        Due.are("9: the same, the other", Books.order(x, 1), 0, Books.GONE, 501, 0, 2);
        x.hidden(2, 0, 9, 500, 5);
        x.market(3, 1, 1);
        x.market(2, 1, 2);
        Due.are("9: what is visible stays", Books.order(x, 5), 6, Books.RESTING, 500, 4, 1);
    }

    private static void room() {
        UncrossedBook x = Books.withOrders(59);
        Due.is("9: the last", x.limit(0, 0, 1, 1, 0), 59);
        Due.is("9: no room", x.limit(0, 0, 1, 1, 0), -7);
        Due.is("9: no room, wrong", x.limit(0, 0, 0, 1, 0), -6);
        Due.is("10: no room", x.hidden(0, 0, 1, 1, 1), -7);
        Due.is("11: no room", x.pegged(0, 0, 1, 1), -7);
        Due.is("12: no room", x.halt(0, 0, 1, 1), -7);
        Due.is("9: sixty", x.status(0), 60);
        x.uncross();
        Due.is("13: needs no room", x.market(0, 1, 1), 1);
        Due.are("9: refusals", Books.refusals(x), 0, 0, 0, 0, 0, 1, 4);
    }
}
