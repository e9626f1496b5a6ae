/** Edges of "What it is" and of "Terms". */
public final class EdgeTermsTest {
    private static final Edge TERMS = Edge.ahead("Terms");

    private EdgeTermsTest() {
    }

    public static void main(String[] args) {
        add();
        Edge.run();
    }

    static void add() {
        calls();
        sidesAndOwners();
        pricesAndQuantities();
        numbers();
        left();
        states();
        kinds();
        kindsEdges();
        times();
        visible();
        visibleAnew();
        peggedPrice();
        peggedFollows();
        peggedWithout();
        rank();
    }

    private static void calls() {
        Edge.ahead("What it is").holds("An object is used for at most 512 calls after it has been made;",
                "the 512th is answered", x -> {
            x.uncross();
            x.hidden(0, 1, 999, 500, 1);
            for (int call = 3; call <= 511; call++) {
                x.market(1, 0, 1);
            }
            Due.is("position(1), call 512", x.position(1), 1000509);
        });
    }

    private static void sidesAndOwners() {
        TERMS.holds("SIDES 0 BUY, 1 SELL;", "0 buys, 1 sells, -1 and 2 are none", Books::opened, x -> {
            x.limit(0, 1, 5, 500, 0);
            x.market(1, 0, 2);
            Due.is("SIDE 1 sold", x.position(0), 999998);
            Due.is("SIDE 0 bought", x.position(1), 1000002);
            Due.is("SIDE -1", x.market(1, -1, 2), -1);
            Due.is("SIDE 2", x.market(1, 2, 2), -1);
        });
        TERMS.holds("OWNERS 0 to 7.", "0 and 7 are, -1 and 8 are none", Books::opened, x -> {
            Due.is("OWNER 0", x.market(0, 0, 1), 0);
            Due.is("OWNER 7", x.market(7, 0, 1), 0);
            Due.is("OWNER -1", x.market(-1, 0, 1), -1);
            Due.is("OWNER 8", x.market(8, 0, 1), -1);
        });
    }

    private static void pricesAndQuantities() {
        String both = "PRICES and QUANTITIES 1 to 999;";
        TERMS.holds(both, "PRICES 1 and 999 are, 0 and 1000 are none", x -> {
            Due.is("PRICE 1", x.limit(0, 0, 5, 1, 0), 0);
            Due.is("PRICE 999", x.limit(0, 0, 5, 999, 0), 1);
            Due.is("PRICE 0", x.limit(0, 0, 5, 0, 0), -6);
            Due.is("PRICE 1000", x.limit(0, 0, 5, 1000, 0), -6);
        });
        TERMS.holds(both, "QUANTITIES 1 and 999 are, 0 and 1000 are none", x -> {
            Due.is("QUANTITY 1", x.limit(0, 0, 1, 5, 0), 0);
            Due.is("QUANTITY 999", x.limit(0, 0, 999, 5, 0), 1);
            Due.is("QUANTITY 0", x.limit(0, 0, 0, 5, 0), -6);
            Due.is("QUANTITY 1000", x.limit(0, 0, 1000, 5, 0), -6);
        });
    }

    private static void numbers() {
        String numbers = "ORDERS have numbers, from 0 on, 60 at most:";
        TERMS.holds(numbers, "the first is 0, the 60th is 59, there is no 61st", x -> {
            Due.is("the first", x.limit(0, 0, 1, 1, 0), 0);
            for (int o = 1; o < 59; o++) {
                x.halt(0, 0, 1, 1);
            }
            Due.is("the 60th", x.pegged(0, 0, 1, 1), 59);
            Due.is("a 61st", x.hidden(0, 0, 1, 1, 1), -7);
        });
        TERMS.holds(numbers, "those GONE and FILLED keep theirs, and take room", Books::opened, x -> {
            for (int o = 0; o < 30; o++) {
                x.limit(0, 1, 1, 500, 0);
                x.limit(1, 0, 1, 500, 0);
            }
            Due.is("none RESTS", x.status(1), 0);
            Due.is("a 61st", x.limit(0, 1, 1, 500, 0), -7);
            Due.is("the first", x.orderOf(0, 4), Books.FILLED);
        });
        TERMS.holds(numbers, "a MARKET one has none", Books::opened, x -> {
            x.market(0, 0, 1);
            Due.is("the first", x.limit(0, 1, 1, 500, 0), 0);
        });
    }

    private static void left() {
        String left = "LEFT (its QUANTITY, less what it has traded),";
        TERMS.holds(left, "none, some, all of it was traded", Books::opened, x -> {
            x.limit(0, 1, 5, 500, 0);
            Due.is("none", x.orderOf(0, 3), 5);
            x.market(1, 0, 4);
            Due.is("some", x.orderOf(0, 3), 1);
            x.market(1, 0, 1);
            Due.is("all", x.orderOf(0, 3), 0);
        });
        TERMS.holds(left, "of one that is GONE as it was", Books::opened, x -> {
            x.limit(0, 1, 5, 500, 0);
            x.market(1, 0, 4);
            x.cancel(0);
            Due.is("cancelled", x.orderOf(0, 3), 1);
            x.limit(0, 1, 7, 500, 1);
            Due.is("a NOW one", x.orderOf(1, 3), 7);
        });
    }

    private static void states() {
        String states = "a STATE: 0 WAITING (a STOP), 1 RESTING, 2 FILLED (nothing LEFT), 3 GONE.";
        TERMS.holds(states, "each of them", Books::rich, x -> {
            Due.is("a STOP", x.orderOf(3, 4), 0);
            Due.is("a LIMIT one", x.orderOf(0, 4), 1);
            Due.is("a PEGGED one", x.orderOf(2, 4), 1);
            Due.is("one with nothing LEFT", x.orderOf(5, 4), 2);
            Due.is("a NOW one", x.orderOf(4, 4), 3);
        });
        TERMS.holds(states, "1 LEFT isn't FILLED", Books::opened, x -> {
            x.limit(0, 1, 5, 500, 0);
            x.market(1, 0, 4);
            Due.is("RESTING", x.orderOf(0, 4), 1);
            x.market(1, 0, 1);
            Due.is("FILLED", x.orderOf(0, 4), 2);
        });
    }

    private static void kinds() {
        TERMS.holds("KINDS: 0 ORDER; 1 LIMIT under ORDER: a PRICE;", "NOW and ALL ones are LIMIT ones", x -> {
            for (int how = 0; how < 3; how++) {
                x.limit(0, 0, 5, 500, how);
                x.show(0, how);
                Due.is("KIND", x.orderOf(how, 0), 1);
                Due.is("its PRICE", x.says(0, 1), 500);
                Due.is("as an ORDER", x.says(0, 0), 5);
            }
        });
        TERMS.holds("None is just an ORDER.", "no KIND is 0", Books::rich, x -> {
            int[] kinds = {1, 2, 3, 4, 1, 1};
            for (int o = 0; o < 6; o++) {
                Due.is("KIND of " + o, x.orderOf(o, 0), kinds[o]);
            }
        });
        TERMS.holds("4 STOP under ORDER: a TRIGGER.", "1 and 999 are, 0 and 1000 are none", x -> {
            Due.is("TRIGGER 1", x.halt(0, 0, 1, 1), 0);
            Due.is("TRIGGER 999", x.halt(0, 0, 1, 999), 1);
            Due.is("TRIGGER 0", x.halt(0, 0, 1, 0), -6);
            Due.is("TRIGGER 1000", x.halt(0, 0, 1, 1000), -6);
            x.show(0, 0);
            Due.is("as an ORDER", x.says(0, 0), 1);
            Due.is("as a LIMIT one", x.says(0, 1), -2);
        });
    }

    private static void kindsEdges() {
        TERMS.holds("2 HIDDEN under LIMIT: a SHOW (1 to 999);", "1 and 999 are, 0 and 1000 are none", x -> {
            Due.is("SHOW 1", x.hidden(0, 0, 999, 5, 1), 0);
            Due.is("SHOW 999", x.hidden(0, 0, 999, 5, 999), 1);
            Due.is("SHOW 0", x.hidden(0, 0, 999, 5, 0), -6);
            Due.is("SHOW 1000", x.hidden(0, 0, 999, 5, 1000), -6);
            Due.is("VISIBLE of 1", x.orderOf(0, 6), 1);
            Due.is("VISIBLE of 999", x.orderOf(1, 6), 999);
        });
        TERMS.holds("2 HIDDEN under LIMIT: a SHOW (1 to 999);", "it is a LIMIT one too", x -> {
            x.hidden(0, 0, 999, 5, 1);
            x.show(0, 0);
            Due.is("as an ORDER", x.says(0, 0), 999);
            Due.is("as a LIMIT one", x.says(0, 1), 5);
            Due.is("as a PEGGED one", x.says(0, 3), -2);
        });
        TERMS.holds("3 PEGGED under ORDER: an OFFSET (0 to 99);", "0 and 99 are, -1 and 100 are none", x -> {
            x.limit(0, 0, 5, 500, 0);
            Due.is("OFFSET 0", x.pegged(0, 0, 1, 0), 1);
            Due.is("OFFSET 99", x.pegged(0, 0, 1, 99), 2);
            Due.is("OFFSET -1", x.pegged(0, 0, 1, -1), -6);
            Due.is("OFFSET 100", x.pegged(0, 0, 1, 100), -6);
            Due.is("PRICE by 0", x.orderOf(1, 5), 500);
            Due.is("PRICE by 99", x.orderOf(2, 5), 401);
        });
        TERMS.holds("3 PEGGED under ORDER: an OFFSET (0 to 99);", "it is no LIMIT one", x -> {
            x.pegged(0, 0, 7, 0);
            x.show(0, 0);
            Due.is("as an ORDER", x.says(0, 0), 7);
            Due.is("as a LIMIT one", x.says(0, 1), -2);
        });
    }

    private static void times() {
        String times = "A RESTING one has a TIME: TIMES are given one behind the other, never twice; less is ahead.";
        TERMS.holds(times, "60 of one PRICE: as they came", x -> {
            for (int o = 0; o < 60; o++) {
                x.limit(0, o % 2, 1, o % 2 == 0 ? 400 : 600, 0);
            }
            for (int i = 0; i < 30; i++) {
                Due.is("rank(0, " + i + ")", x.rank(0, i), 2 * i);
                Due.is("rank(1, " + i + ")", x.rank(1, i), 2 * i + 1);
            }
        });
        TERMS.holds(times, "one that trades a part keeps it", Books::opened, x -> {
            x.limit(0, 0, 5, 500, 0);
            x.limit(0, 0, 5, 500, 0);
            x.market(1, 1, 4);
            Due.are("RANK", Books.line(x, 0), 0, 1);
        });
        TERMS.holds(times, "the least number isn't always the least TIME", x -> {
            x.limit(0, 0, 5, 499, 0);
            x.limit(0, 0, 5, 500, 0);
            x.amend(0, 5, 500);
            Due.are("RANK", Books.line(x, 0), 1, 0);
        });
    }

    private static void visible() {
        String visible = "VISIBLE: of a HIDDEN one at first, and whenever it is 0, the less of its SHOW and LEFT,";
        TERMS.holds(visible, "at first: SHOW below, as much as, above LEFT", x -> {
            x.hidden(0, 0, 5, 500, 4);
            x.hidden(0, 0, 5, 500, 5);
            x.hidden(0, 0, 5, 500, 6);
            Due.is("below", x.orderOf(0, 6), 4);
            Due.is("as much as", x.orderOf(1, 6), 5);
            Due.is("above", x.orderOf(2, 6), 5);
        });
        TERMS.holds(visible, "at first, of what is LEFT when it comes to REST", Books::opened, x -> {
            x.limit(0, 1, 7, 500, 0);
            x.hidden(1, 0, 10, 500, 4);
            Due.is("3 are LEFT", x.orderOf(1, 6), 3);
        });
        TERMS.holds(visible, "1 is VISIBLE: it isn't 0", Books::opened, x -> {
            x.hidden(0, 0, 9, 500, 4);
            x.market(1, 1, 3);
            Due.is("VISIBLE", x.orderOf(0, 6), 1);
        });
        TERMS.holds(visible, "0: LEFT above, as much as, below its SHOW", Books::opened, x -> {
            x.hidden(0, 0, 11, 500, 4);
            x.market(1, 1, 4);
            Due.is("of 7 LEFT", x.orderOf(0, 6), 4);
            x.amend(0, 6, 500);
            x.market(1, 1, 4);
            Due.is("of 2 LEFT", x.orderOf(0, 6), 2);
            x.hidden(0, 0, 8, 501, 4);
            x.market(1, 1, 4);
            Due.is("of 4 LEFT", x.orderOf(1, 6), 4);
        });
        TERMS.holds(visible, "0 again and again in one call", Books::opened, x -> {
            x.hidden(0, 0, 9, 500, 4);
            x.market(1, 1, 8);
            Due.is("trades()", x.trades(), 2);
            Due.is("VISIBLE", x.orderOf(0, 6), 1);
        });
        TERMS.holds("of others LEFT.", "of LIMIT and PEGGED ones", Books::opened, x -> {
            x.limit(0, 0, 999, 500, 0);
            x.pegged(0, 0, 998, 0);
            Due.is("LIMIT", x.orderOf(0, 6), 999);
            Due.is("PEGGED", x.orderOf(1, 6), 998);
            x.market(1, 1, 998);
            Due.is("LIMIT", x.orderOf(0, 6), 1);
        });
    }

    private static void visibleAnew() {
        String time = "and it gets a new TIME then (the first is that by which it comes to REST);";
        TERMS.holds(time, "it goes behind others of its PRICE", Books::opened, x -> {
            x.hidden(0, 0, 9, 500, 4);
            x.limit(0, 0, 5, 500, 0);
            x.market(1, 1, 3);
            Due.are("1 is VISIBLE yet", Books.line(x, 0), 0, 1);
            x.market(1, 1, 1);
            Due.are("0 was", Books.line(x, 0), 1, 0);
        });
        TERMS.holds(time, "two HIDDEN ones take turns", Books::opened, x -> {
            x.hidden(0, 0, 9, 500, 2);
            x.hidden(0, 0, 9, 500, 3);
            x.market(1, 1, 8);
            Due.is("first", x.trade(0, 0), 0);
            Due.is("second", x.trade(1, 0), 1);
            Due.is("third", x.trade(2, 0), 0);
            Due.is("fourth", x.trade(3, 0), 1);
            Due.is("QUANTITY of the fourth", x.trade(3, 3), 1);
        });
        TERMS.holds(time, "the first: it RESTS behind those that came earlier", x -> {
            x.limit(0, 0, 5, 500, 0);
            x.hidden(0, 0, 9, 500, 4);
            x.limit(0, 0, 5, 500, 0);
            Due.are("RANK", Books.line(x, 0), 0, 1, 2);
        });
    }

    private static void peggedPrice() {
        String best = "The PRICE of a PEGGED one: of LIMIT and HIDDEN ones RESTING on its SIDE the best PRICE"
                + " (BUY: greatest; SELL: least),";
        TERMS.holds(best, "the greatest BUY, the least SELL", x -> {
            x.pegged(0, 0, 1, 0);
            x.pegged(0, 1, 1, 0);
            x.limit(0, 0, 1, 400, 0);
            x.limit(0, 0, 1, 402, 0);
            x.limit(0, 0, 1, 401, 0);
            x.limit(0, 1, 1, 601, 0);
            x.limit(0, 1, 1, 600, 0);
            x.limit(0, 1, 1, 602, 0);
            Due.is("BUY", x.orderOf(0, 5), 402);
            Due.is("SELL", x.orderOf(1, 5), 600);
        });
        TERMS.holds(best, "a HIDDEN one as well", x -> {
            x.pegged(0, 0, 1, 0);
            x.hidden(0, 0, 1, 400, 1);
            Due.is("BUY", x.orderOf(0, 5), 400);
        });
        TERMS.holds(best, "not those of the other SIDE, nor PEGGED ones, nor STOPS", x -> {
            x.pegged(0, 0, 1, 0);
            x.limit(0, 1, 1, 600, 0);
            x.pegged(0, 0, 1, 5);
            x.halt(0, 0, 1, 300);
            Due.is("BUY", x.orderOf(0, 5), 0);
        });
        TERMS.holds("BUY: less its OFFSET, SELL: more by it;", "0, 1 and 99", x -> {
            x.limit(0, 0, 1, 400, 0);
            x.limit(0, 1, 1, 600, 0);
            int[] offsets = {0, 1, 99};
            for (int i = 0; i < 3; i++) {
                x.pegged(0, 0, 1, offsets[i]);
                x.pegged(0, 1, 1, offsets[i]);
                Due.is("BUY by " + offsets[i], x.orderOf(2 + 2 * i, 5), 400 - offsets[i]);
                Due.is("SELL by " + offsets[i], x.orderOf(3 + 2 * i, 5), 600 + offsets[i]);
            }
        });
    }

    private static void peggedFollows() {
        String best = "The PRICE of a PEGGED one: of LIMIT and HIDDEN ones RESTING on its SIDE the best PRICE"
                + " (BUY: greatest; SELL: least),";
        TERMS.holds(best, "when the best is GONE the next", Books::rich, x -> {
            x.limit(0, 0, 1, 480, 0);
            Due.is("by 490", x.orderOf(2, 5), 489);
            x.cancel(1);
            Due.is("by 480", x.orderOf(2, 5), 479);
        });
        TERMS.holds(best, "when the best is FILLED the next", Books::rich, x -> {
            x.limit(0, 0, 1, 480, 0);
            x.market(7, 1, 17);
            Due.is("by 480", x.orderOf(2, 5), 479);
        });
        TERMS.holds(best, "when a better one comes that", Books::rich, x -> {
            x.limit(0, 0, 1, 500, 0);
            Due.is("by 500", x.orderOf(2, 5), 499);
        });
    }

    private static void peggedWithout() {
        String none = "if there is none, or that isn't 1 to 999, it has no PRICE and doesn't trade.";
        TERMS.holds(none, "none to follow", Books::opened, x -> {
            x.pegged(0, 1, 5, 0);
            Due.is("PRICE", x.orderOf(0, 5), 0);
            Due.is("market", x.market(1, 0, 5), 0);
        });
        TERMS.holds(none, "BUY: 1 is one, 0 and -1 are none", x -> {
            x.limit(0, 0, 1, 10, 0);
            x.pegged(0, 0, 1, 9);
            x.pegged(0, 0, 1, 10);
            x.pegged(0, 0, 1, 11);
            Due.is("1", x.orderOf(1, 5), 1);
            Due.is("0", x.orderOf(2, 5), 0);
            Due.is("-1", x.orderOf(3, 5), 0);
            Due.are("RANK", Books.line(x, 0), 0, 1);
        });
        TERMS.holds(none, "SELL: 999 is one, 1000 is none", x -> {
            x.limit(0, 1, 1, 990, 0);
            x.pegged(0, 1, 1, 9);
            x.pegged(0, 1, 1, 10);
            Due.is("999", x.orderOf(1, 5), 999);
            Due.is("1000", x.orderOf(2, 5), 0);
            Due.are("RANK", Books.line(x, 1), 0, 1);
        });
        TERMS.holds(none, "what it followed is FILLED in the same call", Books::opened, x -> {
            x.limit(0, 1, 5, 500, 0);
            x.pegged(0, 1, 5, 0);
            Due.is("market", x.market(1, 0, 10), 5);
            Due.are("the PEGGED one", Books.order(x, 1), 5, Books.RESTING, 0, 5, 0);
        });
    }

    private static void rank() {
        String those = "RANK of those RESTING on a SIDE that have a PRICE:";
        TERMS.holds(those, "not WAITING, GONE or FILLED ones, nor those without a PRICE", Books::rich, x -> {
            x.pegged(0, 1, 5, 99);
            x.pegged(0, 0, 5, 99);
            Due.are("BUYS", Books.line(x, 0), 1, 2, 7);
            Due.are("SELLS", Books.line(x, 1), 0, 6);
            x.cancel(0);
            Due.are("SELLS", Books.line(x, 1));
        });
        TERMS.holds("the better PRICE is ahead;", "by 1, BUY and SELL", x -> {
            x.limit(0, 0, 1, 400, 0);
            x.limit(0, 0, 1, 401, 0);
            x.limit(0, 1, 1, 600, 0);
            x.limit(0, 1, 1, 599, 0);
            Due.are("BUYS", Books.line(x, 0), 1, 0);
            Due.are("SELLS", Books.line(x, 1), 3, 2);
        });
        TERMS.holds("the better PRICE is ahead;", "of a PEGGED one too", x -> {
            x.limit(0, 0, 1, 398, 0);
            x.limit(0, 0, 1, 400, 0);
            x.pegged(0, 0, 1, 1);
            Due.are("BUYS", Books.line(x, 0), 1, 2, 0);
        });
        TERMS.holds("of several LIMIT and HIDDEN ones ahead of PEGGED ones;", "that came earlier", x -> {
            x.pegged(0, 0, 1, 0);
            x.limit(0, 0, 1, 400, 0);
            x.hidden(0, 0, 1, 400, 1);
            Due.are("BUYS", Books.line(x, 0), 1, 2, 0);
        });
        TERMS.holds("of these by TIME.", "LIMIT and HIDDEN ones, then PEGGED ones", x -> {
            x.pegged(0, 0, 1, 0);
            x.hidden(0, 0, 1, 400, 1);
            x.pegged(0, 0, 1, 0);
            x.limit(0, 0, 1, 400, 0);
            Due.are("BUYS", Books.line(x, 0), 1, 3, 0, 2);
            x.amend(1, 2, 400);
            Due.are("BUYS", Books.line(x, 0), 3, 1, 0, 2);
        });
    }
}
