/** Edges of "2. PHASES": UNCROSS, CLOSE, AMEND. */
public final class EdgeAuctionTest {
    private static final Edge PHASES = Edge.ahead("2. PHASES");

    private EdgeAuctionTest() {
    }

    public static void main(String[] args) {
        add();
        Edge.run();
    }

    static void add() {
        volume();
        prices();
        greatest();
        nearest();
        none();
        trades();
        againAndAgain();
        hidden();
        opens();
        closes();
        amends();
        amendKeeps();
        amendHidden();
        amendComes();
        amendStops();
    }

    /** PRICE and VOLUME that the TEXT's ORDERS would come to. */
    private static void crosses(String sentence, String edge, int last, String text, int price, int volume) {
        PHASES.holds(sentence, edge, () -> {
            UncrossedBook x = last == 0 ? new UncrossedBook() : Books.openedAt(last);
            x.close();
            return x;
        }, x -> {
            Books.readText(x, text);
            Due.is("crossing(0) of " + text, x.crossing(0), price);
            Due.is("crossing(1) of " + text, x.crossing(1), volume);
        });
    }

    private static void volume() {
        String volume = "UNCROSS (AUCTION): at a PRICE p: BUYS: what is LEFT of LIMIT and HIDDEN ones of PRICE p"
                + " or above, SELLS: of p or below; VOLUME: the less of both.";
        crosses(volume, "both of just p", 0, "a+5@500;b-5@500", 500, 5);
        crosses(volume, "BUYS less", 0, "a+4@500;b-5@500", 500, 4);
        crosses(volume, "SELLS less", 0, "a+5@500;b-4@500", 500, 4);
        crosses(volume, "1 apart: none", 0, "a+5@500;b-4@501", 0, 0);
        crosses(volume, "HIDDEN ones whole", 0, "a+50@500h1;b-40@500h1", 500, 40);
        crosses(volume, "above and below count together", 0, "a+5@500;a+3@501;b-2@499;b-4@500", 500, 6);
        PHASES.holds(volume, "neither PEGGED ones nor STOPS", x -> {
            x.limit(0, 0, 5, 500, 0);
            x.pegged(0, 0, 9, 0);
            x.limit(1, 1, 9, 500, 0);
            x.halt(0, 0, 9, 1);
            Due.is("crossing(1)", x.crossing(1), 5);
            x.cancel(0);
            Due.is("crossing(1)", x.crossing(1), 0);
        });
        PHASES.holds(volume, "what is LEFT: not what was traded, nor what is GONE", Books::opened, x -> {
            x.limit(0, 0, 5, 500, 0);
            x.limit(0, 0, 4, 500, 0);
            x.market(1, 1, 2);
            x.cancel(1);
            x.close();
            x.limit(1, 1, 9, 500, 0);
            Due.is("crossing(1)", x.crossing(1), 3);
        });
    }

    private static void prices() {
        String all = "Of all p 1 to 999 that of greatest VOLUME,";
        crosses(all, "p 1", 0, "a+5@1;b-5@1", 1, 5);
        crosses(all, "p 999", 0, "a+5@999;b-5@999", 999, 5);
        crosses(all, "p 1 by LAST 1", 1, "a+5@999;b-5@1", 1, 5);
        crosses(all, "p 999 by LAST 999", 999, "a+5@999;b-5@1", 999, 5);
        PHASES.holds(all, "of the whole of 60", x -> {
            for (int i = 0; i < 30; i++) {
                x.limit(0, 0, 999, 999, 0);
                x.limit(1, 1, 999, 1, 0);
            }
            Due.is("crossing(1)", x.crossing(1), 30 * 999);
            Due.is("crossing(0)", x.crossing(0), 500);
        });
    }

    private static void greatest() {
        String all = "Of all p 1 to 999 that of greatest VOLUME,";
        crosses(all, "by 1, though BUYS and SELLS differ more", 0, "a+5@500;a+1@400;b-5@500;b-20@501;a+6@501", 501, 6);
        crosses(all, "by 1, though far from LAST", 900, "a+5@900;a+1@100;b-6@100", 100, 6);
        String differ = "of several that by which BUYS and SELLS differ least,";
        crosses(differ, "none and 1: more BUYS below", 500, "a+5@700;a+1@600;b-5@300", 601, 5);
        crosses(differ, "none and 1: more SELLS above", 500, "a+5@700;b-5@300;b-1@400", 399, 5);
        crosses(differ, "1 and 2 more BUYS", 500, "a+6@600;a+1@500;b-5@300", 501, 5);
        crosses(differ, "1 and 2 more SELLS", 650, "a+5@700;b-6@400;b-1@600", 599, 5);
        crosses(differ, "1 either way: LAST among those with more BUYS", 500, "a+5@600;a+1@500;b-5@400;b-1@501", 500, 5);
        crosses(differ, "1 either way: LAST among those with more SELLS", 501, "a+5@600;a+1@500;b-5@400;b-1@501", 501, 5);
    }

    private static void nearest() {
        String nearest = "of these that nearest to LAST (to 500, if there is none),";
        crosses(nearest, "none: 500", 0, "a+5@700;b-5@300", 500, 5);
        crosses(nearest, "none: from 500 on", 0, "a+5@700;b-5@500", 500, 5);
        crosses(nearest, "none: up to 500", 0, "a+5@500;b-5@300", 500, 5);
        crosses(nearest, "none: above 500", 0, "a+5@700;b-5@501", 501, 5);
        crosses(nearest, "none: below 500", 0, "a+5@499;b-5@300", 499, 5);
        crosses(nearest, "LAST among them", 650, "a+5@700;b-5@300", 650, 5);
        crosses(nearest, "LAST the least of them", 300, "a+5@700;b-5@300", 300, 5);
        crosses(nearest, "LAST the greatest of them", 700, "a+5@700;b-5@300", 700, 5);
        crosses(nearest, "LAST 1 below them", 299, "a+5@700;b-5@300", 300, 5);
        crosses(nearest, "LAST 1 above them", 701, "a+5@700;b-5@300", 700, 5);
        crosses(nearest, "LAST 1", 1, "a+5@700;b-5@300", 300, 5);
        crosses(nearest, "LAST 999", 999, "a+5@700;b-5@300", 700, 5);
        crosses(nearest, "VOLUME 1", 0, "a+1@700;b-1@300", 500, 1);
        // Those as good as one another stand side by side: no two are as near to LAST.
        crosses("of these the least.", "of two side by side, LAST the greater", 500, "a+5@500;b-5@499", 500, 5);
        crosses("of these the least.", "of two side by side, LAST the lesser", 499, "a+5@500;b-5@499", 499, 5);
        crosses("of these the least.", "of two side by side, LAST below", 498, "a+5@500;b-5@499", 499, 5);
    }

    private static void none() {
        String volume = "If its VOLUME isn't 0:";
        PHASES.holds(volume, "it is 0: nothing trades", Books::richAuction, x -> {
            Due.is("uncross()", x.uncross(), 0);
            Due.is("trades()", x.trades(), 2);
            Due.is("status(1)", x.status(1), 3);
        });
        PHASES.holds(volume, "it is 0: a HIDDEN one isn't VISIBLE anew", Books::richAuction, x -> {
            x.uncross();
            Due.is("orderOf(1, 6)", x.orderOf(1, 6), 3);
        });
        PHASES.holds(volume, "it is 1", x -> {
            x.limit(0, 0, 5, 500, 0);
            x.limit(1, 1, 1, 500, 0);
            Due.is("uncross()", x.uncross(), 1);
            Due.are("the trade", Books.trade(x, 0), 0, 1, 500, 1);
        });
    }

    private static void trades() {
        String first = "the first BUY and the first SELL by RANK (LIMIT and HIDDEN alone) trade the less of what is LEFT"
                + " of both and of what is left of the VOLUME, at p;";
        PHASES.holds(first, "what is LEFT of the BUY is least", x -> {
            x.limit(0, 0, 3, 500, 0);
            x.limit(0, 0, 4, 500, 0);
            x.limit(1, 1, 7, 500, 0);
            x.uncross();
            Due.are("trade 0", Books.trade(x, 0), 0, 2, 500, 3);
            Due.are("trade 1", Books.trade(x, 1), 1, 2, 500, 4);
        });
        PHASES.holds(first, "what is LEFT of the SELL is least", x -> {
            x.limit(0, 0, 7, 500, 0);
            x.limit(1, 1, 3, 500, 0);
            x.limit(1, 1, 4, 500, 0);
            x.uncross();
            Due.are("trade 0", Books.trade(x, 0), 0, 1, 500, 3);
            Due.are("trade 1", Books.trade(x, 1), 0, 2, 500, 4);
        });
        PHASES.holds(first, "what is left of the VOLUME is least", x -> {
            x.limit(0, 0, 4, 500, 0);
            x.limit(0, 0, 9, 500, 0);
            x.limit(1, 1, 6, 500, 0);
            Due.is("uncross()", x.uncross(), 6);
            Due.are("trade 1", Books.trade(x, 1), 1, 2, 500, 2);
            Due.is("LEFT of the BUY", x.orderOf(1, 3), 7);
        });
        PHASES.holds(first, "by RANK: the better PRICE, then the TIME", x -> {
            x.limit(0, 0, 2, 500, 0);
            x.limit(0, 0, 2, 501, 0);
            x.limit(0, 0, 2, 500, 0);
            x.amend(0, 3, 500);
            x.limit(1, 1, 5, 500, 0);
            x.uncross();
            Due.is("first", x.trade(0, 0), 1);
            Due.is("second", x.trade(1, 0), 2);
            Due.is("third", x.trade(2, 0), 0);
        });
        PHASES.holds(first, "HIDDEN ones trade what is LEFT, not what is VISIBLE", x -> {
            x.hidden(0, 0, 9, 500, 2);
            x.hidden(1, 1, 9, 500, 3);
            x.uncross();
            Due.is("trades()", x.trades(), 1);
            Due.are("trade 0", Books.trade(x, 0), 0, 1, 500, 9);
        });
        PHASES.holds(first, "at p, not at the PRICE of either", x -> {
            x.limit(0, 0, 5, 510, 0);
            x.limit(1, 1, 5, 480, 0);
            x.uncross();
            Due.is("its PRICE", x.trade(0, 2), 500);
            Due.is("status(5)", x.status(5), 500);
            Due.is("cash(0)", x.cash(0), 1000000000 - 2500);
        });
        PHASES.holds(first, "a PEGGED one that came first doesn't trade", x -> {
            x.pegged(0, 0, 5, 0);
            x.limit(0, 0, 5, 500, 0);
            x.pegged(1, 1, 5, 0);
            x.limit(1, 1, 5, 500, 0);
            x.uncross();
            Due.are("trade 0", Books.trade(x, 0), 1, 3, 500, 5);
            Due.is("trades()", x.trades(), 1);
        });
    }

    private static void againAndAgain() {
        String again = "again and again, till the VOLUME is done (no RULE);";
        PHASES.holds(again, "59 trades of 60 ORDERS", x -> {
            for (int i = 0; i < 30; i++) {
                x.limit(0, 0, i == 0 ? 1 : 2, 500, 0);
                x.limit(1, 1, i == 29 ? 1 : 2, 500, 0);
            }
            Due.is("uncross()", x.uncross(), 59);
            Due.is("trades()", x.trades(), 59);
            Due.is("status(1)", x.status(1), 0);
        });
        PHASES.holds(again, "it is done: what is LEFT RESTS on", x -> {
            x.limit(0, 0, 5, 500, 0);
            x.limit(1, 1, 4, 500, 0);
            x.limit(2, 1, 4, 500, 0);
            x.uncross();
            Due.is("trades()", x.trades(), 2);
            Due.are("the last SELL", Books.order(x, 2), 3, Books.RESTING, 500, 3, 1);
        });
        PHASES.holds(again, "it is done: on both SIDES some REST that p is beyond", x -> {
            x.limit(0, 0, 5, 500, 0);
            x.limit(0, 0, 9, 499, 0);
            x.limit(1, 1, 7, 500, 0);
            x.limit(1, 1, 9, 501, 0);
            Due.is("uncross()", x.uncross(), 5);
            Due.is("trades()", x.trades(), 1);
            Due.are("the BUY of 499", Books.order(x, 1), 9, Books.RESTING, 499, 9, 0);
            Due.are("the SELL of 500", Books.order(x, 2), 2, Books.RESTING, 500, 2, 5);
        });
        for (int rule = 1; rule < 4; rule++) {
            int byRule = rule;
            PHASES.holds(again, "RULE " + rule + " is of no matter", x -> {
                x.rule(byRule);
                x.limit(0, 0, 5, 500, 0);
                x.limit(0, 1, 4, 500, 0);
                Due.is("uncross()", x.uncross(), 4);
                Due.are("the BUY", Books.order(x, 0), 1, Books.RESTING, 500, 1, 4);
                Due.are("the SELL", Books.order(x, 1), 0, Books.FILLED, 500, 0, 4);
            });
        }
    }

    private static void hidden() {
        String anew = "then each HIDDEN one that traded and has something LEFT is VISIBLE anew (with its old TIME).";
        int[] traded = {1, 4, 7, 8, 9, 10};
        int[] visible = {3, 3, 3, 2, 1, 0};
        for (int i = 0; i < traded.length; i++) {
            int quantity = traded[i];
            int due = visible[i];
            for (int side = 0; side < 2; side++) {
                int ofSide = side;
                String edge = (side == 0 ? "BUY" : "SELL") + " of 10, SHOW 3: " + quantity + " traded";
                PHASES.holds(anew, edge, x -> {
                    x.hidden(0, ofSide, 10, 500, 3);
                    x.limit(1, 1 - ofSide, quantity, 500, 0);
                    x.uncross();
                    Due.is("VISIBLE", x.orderOf(0, 6), due);
                });
            }
        }
        PHASES.holds(anew, "that was VISIBLE in part", Books::opened, x -> {
            x.hidden(0, 0, 10, 500, 3);
            x.market(1, 1, 2);
            x.close();
            x.limit(1, 1, 1, 500, 0);
            Due.is("ahead of it", x.orderOf(0, 6), 1);
            x.uncross();
            Due.is("VISIBLE", x.orderOf(0, 6), 3);
        });
        PHASES.holds(anew, "not one that didn't trade", Books::opened, x -> {
            x.hidden(0, 0, 10, 500, 3);
            x.market(1, 1, 2);
            x.hidden(0, 0, 10, 501, 3);
            x.close();
            x.limit(1, 1, 10, 500, 0);
            x.uncross();
            Due.is("the other traded", x.orderOf(1, 4), Books.FILLED);
            Due.is("VISIBLE", x.orderOf(0, 6), 1);
        });
        PHASES.holds(anew, "with its old TIME", x -> {
            x.hidden(0, 0, 10, 500, 3);
            x.limit(0, 0, 5, 500, 0);
            x.limit(1, 1, 3, 500, 0);
            x.uncross();
            Due.are("BUYS", Books.line(x, 0), 0, 1);
        });
    }

    private static void opens() {
        String open = "Then (also with VOLUME 0) it is OPEN, and STOPS that are REACHED GO IN.";
        PHASES.holds(open, "with VOLUME 0, of no ORDERS", x -> {
            x.uncross();
            Due.is("status(3)", x.status(3), 1);
        });
        PHASES.holds(open, "with VOLUME 1", x -> {
            x.limit(0, 0, 1, 500, 0);
            x.limit(1, 1, 1, 500, 0);
            x.uncross();
            Due.is("status(3)", x.status(3), 1);
        });
        PHASES.holds(open, "a STOP reached by p", x -> {
            x.halt(2, 0, 1, 500);
            x.halt(2, 0, 1, 501);
            x.limit(0, 0, 1, 500, 0);
            x.limit(1, 1, 9, 500, 0);
            x.uncross();
            Due.are("the one reached", Books.order(x, 0), 0, Books.FILLED, 500, 0, 1);
            Due.is("the other", x.orderOf(1, 4), Books.WAITING);
        });
        PHASES.holds(open, "with VOLUME 0 a STOP that LAST reached while it was the AUCTION", Books::richAuction, x -> {
            x.halt(7, 0, 1, 490);
            Due.is("uncross()", x.uncross(), 0);
            Due.are("the STOP", Books.order(x, 6), 0, Books.FILLED, 490, 0, 1);
            Due.are("its trade", Books.trade(x, 2), 6, 0, 510, 1);
        });
        PHASES.holds(open, "with VOLUME 0 and LAST 0 none", x -> {
            x.halt(7, 1, 1, 999);
            x.uncross();
            Due.is("the STOP", x.orderOf(0, 4), Books.WAITING);
        });
        PHASES.holds(open, "they trade with what is VISIBLE anew", x -> {
            x.hidden(0, 1, 10, 500, 3);
            x.limit(1, 0, 5, 500, 0);
            x.halt(2, 0, 4, 500);
            x.uncross();
            Due.are("trade 1", Books.trade(x, 1), 2, 0, 500, 3);
            Due.are("trade 2", Books.trade(x, 2), 2, 0, 500, 1);
        });
    }

    private static void closes() {
        String close = "To CLOSE: it is the AUCTION again.";
        PHASES.holds(close, "at once, and again", Books::opened, x -> {
            x.close();
            Due.is("status(3)", x.status(3), 0);
            x.uncross();
            x.close();
            Due.is("status(3)", x.status(3), 0);
        });
        PHASES.holds(close, "ORDERS, RULE, LAST stay", Books::rich, x -> {
            x.close();
            Due.is("status(0)", x.status(0), 6);
            Due.is("status(2)", x.status(2), 1);
            Due.is("status(4)", x.status(4), 1);
            Due.is("status(5)", x.status(5), 490);
            Due.are("the HIDDEN one", Books.order(x, 1), 17, Books.RESTING, 490, 3, 3);
        });
        PHASES.holds(close, "LAST stays what is near: not 500", () -> Books.openedAt(700), x -> {
            x.close();
            x.limit(0, 0, 5, 900, 0);
            x.limit(1, 1, 5, 100, 0);
            Due.is("crossing(0)", x.crossing(0), 700);
        });
    }

    private static void amends() {
        String gets = "AMEND: an ORDER that RESTS and isn't PEGGED, or a STOP that WAITS, gets a QUANTITY LEFT and a PRICE"
                + " (a STOP: a TRIGGER):";
        PHASES.holds(gets, "a LIMIT, a HIDDEN one and a STOP may, a PEGGED, a GONE, a FILLED one may not", Books::rich,
                x -> {
            int[] prices = {600, 300, 300, 700, 300, 300};
            int[] due = {0, 0, -6, 0, -6, -6};
            for (int o = 0; o < 6; o++) {
                Due.is("amend " + o, x.amend(o, 2, prices[o]), due[o]);
            }
        });
        PHASES.holds(gets, "what it traded before is no part of it", Books::opened, x -> {
            x.limit(0, 0, 9, 500, 0);
            x.market(1, 1, 4);
            x.amend(0, 9, 500);
            Due.are("the ORDER", Books.order(x, 0), 9, Books.RESTING, 500, 9, 4);
        });
        PHASES.holds(gets, "1 of 999, 999 of 1", x -> {
            x.limit(0, 0, 999, 500, 0);
            x.amend(0, 1, 500);
            Due.is("1", x.orderOf(0, 3), 1);
            x.amend(0, 999, 500);
            Due.is("999", x.orderOf(0, 3), 999);
        });
    }

    /** ORDERS 0 and 1 buy 5 at 500; then 0 is AMENDED: who is first. */
    private static void keeps(String edge, int quantity, int price, long... due) {
        String keeps = "a RESTING one of the same PRICE and not more LEFT keeps its TIME";
        PHASES.holds(keeps, edge, x -> {
            x.limit(0, 0, 5, 500, 0);
            x.limit(0, 0, 5, 500, 0);
            x.amend(0, quantity, price);
            x.limit(0, 0, 1, 500, 0);
            Due.are("BUYS", Books.line(x, 0), due);
        });
    }

    private static void amendKeeps() {
        keeps("as much LEFT", 5, 500, 0, 1, 2);
        keeps("1 less", 4, 500, 0, 1, 2);
        keeps("the least", 1, 500, 0, 1, 2);
        keeps("1 more", 6, 500, 1, 0, 2);
        keeps("another PRICE, worse by 1, less LEFT", 4, 499, 1, 2, 0);
        PHASES.holds("a RESTING one of the same PRICE and not more LEFT keeps its TIME", "LEFT, not its first QUANTITY",
                Books::opened, x -> {
            x.limit(0, 0, 5, 500, 0);
            x.limit(0, 0, 5, 500, 0);
            x.market(1, 1, 2);
            x.amend(0, 3, 500);
            Due.are("3 of 3", Books.line(x, 0), 0, 1);
            x.amend(0, 4, 500);
            Due.are("4 of 3", Books.line(x, 0), 1, 0);
        });
        PHASES.holds("a RESTING one of the same PRICE and not more LEFT keeps its TIME", "another PRICE, and back",
                x -> {
            x.limit(0, 0, 5, 500, 0);
            x.limit(0, 0, 5, 500, 0);
            x.amend(0, 5, 501);
            x.amend(0, 5, 500);
            Due.are("BUYS", Books.line(x, 0), 1, 0);
        });
        PHASES.holds("a RESTING one of the same PRICE and not more LEFT keeps its TIME", "a HIDDEN one",
                x -> {
            x.hidden(0, 0, 9, 500, 2);
            x.limit(0, 0, 5, 500, 0);
            x.amend(0, 9, 500);
            Due.are("as much", Books.line(x, 0), 0, 1);
            x.amend(0, 10, 500);
            Due.are("1 more", Books.line(x, 0), 1, 0);
        });
    }

    private static void amendHidden() {
        String visible = "keeps its TIME (VISIBLE of a HIDDEN one is what there is LEFT at most);";
        int[] quantities = {17, 4, 3, 2, 1};
        int[] due = {3, 3, 3, 2, 1};
        for (int i = 0; i < quantities.length; i++) {
            int quantity = quantities[i];
            int sees = due[i];
            PHASES.holds(visible, "AMENDED: 3 VISIBLE of 17, then LEFT " + quantity, Books::rich, x -> {
                x.amend(1, quantity, 490);
                Due.are("the HIDDEN one", Books.order(x, 1), quantity, Books.RESTING, 490, sees, 3);
            });
        }
        String anew = "else it leaves and comes as a new one (GOES IN when it is OPEN), of the same number;";
        PHASES.holds(anew, "a HIDDEN one is VISIBLE as at first", Books::rich, x -> {
            x.amend(1, 18, 490);
            Due.are("1 more", Books.order(x, 1), 18, Books.RESTING, 490, 6, 3);
            x.amend(1, 5, 491);
            Due.are("less than its SHOW", Books.order(x, 1), 5, Books.RESTING, 491, 5, 3);
            x.amend(1, 999, 491);
            Due.are("its SHOW stays", Books.order(x, 1), 999, Books.RESTING, 491, 6, 3);
        });
    }

    private static void amendComes() {
        String anew = "else it leaves and comes as a new one (GOES IN when it is OPEN), of the same number;";
        PHASES.holds(anew, "OPEN: at its new PRICE, and 1 off", Books::rich, x -> {
            x.limit(7, 0, 5, 480, 0);
            Due.is("1 off", x.amend(6, 5, 509), 0);
            Due.is("at it", x.amend(6, 5, 510), 5);
            Due.are("the trade", Books.trade(x, 2), 6, 0, 510, 5);
            Due.is("status(0)", x.status(0), 7);
        });
        PHASES.holds(anew, "AUCTION: it RESTS, and trades by uncross()", Books::richAuction, x -> {
            x.limit(7, 0, 5, 480, 0);
            Due.is("amend(6, 5, 510)", x.amend(6, 5, 510), 0);
            Due.is("uncross()", x.uncross(), 5);
        });
        PHASES.holds(anew, "of the same PRICE and more LEFT: behind others", x -> {
            x.limit(0, 1, 5, 500, 0);
            x.limit(0, 1, 5, 500, 0);
            x.amend(0, 6, 500);
            Due.are("SELLS", Books.line(x, 1), 1, 0);
        });
        PHASES.holds(anew, "RULE 1: GONE", Books::rich, x -> {
            x.limit(0, 0, 5, 480, 0);
            Due.is("amend(6, 7, 510)", x.amend(6, 7, 510), 0);
            Due.are("the ORDER", Books.order(x, 6), 7, Books.GONE, 510, 0, 0);
        });
        PHASES.holds(anew, "RULE 2: the other one is GONE", Books::rich, x -> {
            x.rule(2);
            x.limit(0, 0, 5, 480, 0);
            x.amend(6, 7, 510);
            Due.are("the ORDER", Books.order(x, 6), 7, Books.RESTING, 510, 7, 0);
            Due.is("the other one", x.orderOf(0, 4), Books.GONE);
        });
        PHASES.holds(anew, "RULE 3: nothing LEFT of either", Books::rich, x -> {
            x.rule(3);
            x.limit(0, 0, 5, 480, 0);
            x.amend(6, 5, 510);
            Due.are("the ORDER", Books.order(x, 6), 0, Books.GONE, 510, 0, 0);
            Due.are("the other one", Books.order(x, 0), 0, Books.GONE, 510, 0, 0);
        });
    }

    private static void amendStops() {
        PHASES.holds("a STOP waits on;", "its TRIGGER 1 off LAST", Books::rich, x -> {
            Due.is("amend(3, 9, 491)", x.amend(3, 9, 491), 0);
            Due.are("the STOP", Books.order(x, 3), 9, Books.WAITING, 491, 0, 0);
        });
        PHASES.holds("a STOP waits on;", "AUCTION: its TRIGGER is LAST", Books::richAuction, x -> {
            Due.is("amend(3, 9, 490)", x.amend(3, 9, 490), 0);
            Due.are("the STOP", Books.order(x, 3), 9, Books.WAITING, 490, 0, 0);
        });
        PHASES.holds("a STOP waits on;", "of the same number: it goes in ahead of a greater one", Books::opened, x -> {
            x.limit(0, 1, 9, 500, 0);
            x.halt(2, 0, 1, 600);
            x.halt(3, 0, 1, 500);
            x.amend(1, 2, 500);
            x.market(4, 0, 1);
            Due.are("first", Books.trade(x, 1), 1, 0, 500, 2);
            Due.are("second", Books.trade(x, 2), 2, 0, 500, 1);
        });
        String then = "then STOPS that are REACHED GO IN.";
        PHASES.holds(then, "the AMENDED one: its TRIGGER is LAST", Books::rich, x -> {
            Due.is("amend(3, 9, 490)", x.amend(3, 9, 490), 5);
            Due.are("the STOP", Books.order(x, 3), 4, Books.GONE, 490, 0, 5);
        });
        PHASES.holds(then, "another, by what the AMENDED one traded", Books::rich, x -> {
            x.amend(3, 8, 510);
            x.limit(7, 0, 1, 480, 0);
            x.amend(6, 1, 510);
            Due.are("the STOP", Books.order(x, 3), 4, Books.GONE, 510, 0, 4);
        });
        PHASES.holds(then, "none, where the AMENDED one didn't trade", Books::rich, x -> {
            x.halt(7, 1, 1, 489);
            x.amend(0, 4, 510);
            Due.is("status(2)", x.status(2), 2);
        });
    }
}
