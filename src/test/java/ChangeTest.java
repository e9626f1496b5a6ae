/** Promises 16 to 21: cancel, amend, rule, uncross, close, crossing. */
public final class ChangeTest {
    private ChangeTest() {
    }

    public static void main(String[] args) {
        cancel();
        cancelRefusals();
        amendKeeps();
        amendLoses();
        amendHidden();
        amendGoesIn();
        amendStop();
        amendWakes();
        amendRefusals();
        rule();
        uncross();
        uncrossHidden();
        uncrossHiddenSells();
        uncrossOwn();
        uncrossPegged();
        uncrossStops();
        price();
        close();
        crossing();
        Due.end();
    }

    private static void cancel() {
        UncrossedBook x = Books.opened();
        x.limit(0, 0, 5, 500, 0);
        x.hidden(0, 0, 9, 500, 2);
        x.pegged(0, 0, 7, 1);
        x.halt(0, 0, 8, 900);
        x.market(1, 1, 2);
        Due.is("16: what was left", x.cancel(0), 3);
        Due.is("16: hidden", x.cancel(1), 9);
        Due.is("16: pegged", x.cancel(2), 7);
        Due.is("16: stop", x.cancel(3), 8);
        Due.are("16: gone", Books.order(x, 0), 3, Books.GONE, 500, 0, 2);
        Due.are("16: the stop", Books.order(x, 3), 8, Books.GONE, 900, 0, 0);
        Due.is("16: none rests", x.status(1), 0);
        Due.is("16: none waits", x.status(2), 0);
        Due.are("16: none has a rank", Books.line(x, 0));
    }

    private static void cancelRefusals() {
        UncrossedBook x = Books.opened();
        x.limit(0, 0, 5, 500, 0);
        x.limit(0, 0, 5, 500, 1);
        x.limit(0, 1, 5, 500, 0);
        Due.is("16: no such", x.cancel(-1), -1);
        Due.is("16: no such", x.cancel(3), -1);
        Due.is("16: gone", x.cancel(1), -6);
        Due.is("16: filled", x.cancel(0), -6);
        Due.are("16: refusals", Books.refusals(x), 2, 0, 0, 0, 0, 2, 0);
    }

    private static void amendKeeps() {
        UncrossedBook x = new UncrossedBook();
        x.limit(0, 0, 5, 500, 0);
        x.limit(1, 0, 5, 500, 0);
        Due.is("17: less", x.amend(0, 4, 500), 0);
        Due.are("17: keeps its time", Books.line(x, 0), 0, 1);
        Due.is("17: as much", x.amend(0, 4, 500), 0);
        Due.are("17: keeps its time", Books.line(x, 0), 0, 1);
        Due.are("17: less left", Books.order(x, 0), 4, Books.RESTING, 500, 4, 0);
    }

    private static void amendLoses() {
        UncrossedBook x = new UncrossedBook();
        x.limit(0, 0, 5, 500, 0);
        x.limit(1, 0, 5, 500, 0);
        Due.is("17: more", x.amend(0, 6, 500), 0);
        Due.are("17: loses its time", Books.line(x, 0), 1, 0);
        Due.is("17: another price", x.amend(1, 1, 501), 0);
        Due.are("17: ahead", Books.line(x, 0), 1, 0);
        Due.is("17: back", x.amend(1, 1, 500), 0);
        Due.are("17: behind", Books.line(x, 0), 0, 1);
        Due.are("17: amended", Books.order(x, 1), 1, Books.RESTING, 500, 1, 0);
        x.uncross();
        x.limit(2, 1, 2, 500, 0);
        Due.is("17: more than is left", x.amend(0, 5, 500), 0);
        Due.are("17: what it traded stays", Books.order(x, 0), 5, Books.RESTING, 500, 5, 2);
        Due.are("17: behind again", Books.line(x, 0), 1, 0);
    }

    private static void amendHidden() {
        UncrossedBook x = Books.opened();
        x.hidden(0, 0, 20, 500, 6);
        x.limit(1, 0, 1, 500, 0);
        x.market(2, 1, 2);
        x.amend(0, 10, 500);
        Due.are("17: visible stays", Books.order(x, 0), 10, Books.RESTING, 500, 4, 2);
        x.amend(0, 3, 500);
        Due.are("17: visible at most what is left", Books.order(x, 0), 3, Books.RESTING, 500, 3, 2);
        Due.are("17: keeps its time", Books.line(x, 0), 0, 1);
        x.amend(0, 30, 500);
        Due.are("17: visible anew", Books.order(x, 0), 30, Books.RESTING, 500, 6, 2);
        Due.are("17: loses its time", Books.line(x, 0), 1, 0);
    }

    private static void amendGoesIn() {
        UncrossedBook x = Books.opened();
        x.limit(0, 1, 5, 505, 0);
        x.limit(1, 0, 8, 500, 0);
        x.limit(1, 0, 8, 500, 0);
        Due.is("17: goes in", x.amend(1, 7, 505), 5);
        Due.are("17: of the same number", Books.trade(x, 0), 1, 0, 505, 5);
        Due.are("17: what is left rests", Books.order(x, 1), 2, Books.RESTING, 505, 2, 5);
        Due.is("17: no new order", x.status(0), 3);
        x.limit(1, 1, 4, 506, 0);
        x.rule(1);
        Due.is("17: rule 1", x.amend(2, 9, 506), 0);
        Due.are("17: stops", Books.order(x, 2), 9, Books.GONE, 506, 0, 0);
        x.limit(2, 1, 3, 506, 0);
        x.rule(2);
        Due.is("17: rule 2", x.amend(1, 3, 506), 3);
        Due.are("17: filled", Books.order(x, 1), 0, Books.FILLED, 506, 0, 8);
        x.close();
        x.limit(3, 0, 5, 500, 0);
        x.limit(4, 1, 5, 510, 0);
        Due.is("17: in the auction it rests", x.amend(5, 5, 510), 0);
        Due.is("17: rests", x.orderOf(5, Books.STATE), Books.RESTING);
    }

    private static void amendStop() {
        UncrossedBook x = Books.openedAt(500);
        x.limit(0, 1, 5, 503, 0);
        int stop = x.halt(1, 0, 3, 501);
        Due.is("17: a stop waits on", x.amend(stop, 4, 502), 0);
        Due.are("17: amended", Books.order(x, stop), 4, Books.WAITING, 502, 0, 0);
        Due.is("17: reached", x.amend(stop, 6, 500), 5);
        Due.are("17: it went in", Books.order(x, stop), 1, Books.GONE, 500, 0, 5);
        x.close();
        int second = x.halt(1, 1, 3, 400);
        Due.is("17: in the auction", x.amend(second, 3, 503), 0);
        Due.are("17: it waits", Books.order(x, second), 3, Books.WAITING, 503, 0, 0);
    }

    private static void amendWakes() {
        UncrossedBook x = Books.opened();
        x.limit(0, 1, 2, 505, 0);
        int amended = x.limit(1, 0, 8, 500, 0);
        int stop = x.halt(2, 1, 3, 505);
        Due.is("17: what it traded by that", x.amend(amended, 8, 505), 5);
        Due.are("17: a stop was reached", Books.order(x, stop), 0, Books.FILLED, 505, 0, 3);
        Due.are("17: with that", Books.trade(x, 1), amended, stop, 505, 3);
    }

    private static void amendRefusals() {
        UncrossedBook x = Books.openedAt(500);
        int resting = x.limit(0, 0, 5, 500, 0);
        int pegged = x.pegged(0, 0, 5, 1);
        int gone = x.limit(0, 0, 5, 400, 1);
        int stop = x.halt(0, 0, 5, 1);
        Due.is("17: no such", x.amend(-1, 0, 0), -1);
        Due.is("17: no such", x.amend(stop + 1, 1, 1), -1);
        Due.is("17: quantity", x.amend(resting, 0, 500), -6);
        Due.is("17: quantity", x.amend(resting, 1000, 500), -6);
        Due.is("17: price", x.amend(resting, 5, 0), -6);
        Due.is("17: price", x.amend(resting, 5, 1000), -6);
        Due.is("17: pegged", x.amend(pegged, 5, 500), -6);
        Due.is("17: gone", x.amend(gone, 5, 500), -6);
        Due.is("17: filled", x.amend(0, 5, 500), -6);
        Due.is("17: a stop that went in", x.amend(stop, 5, 500), -6);
        int edge = x.limit(0, 0, 1, 1, 0);
        Due.is("17: edges", x.amend(edge, 1, 1), 0);
        Due.is("17: edges", x.amend(edge, 999, 1), 0);
        Due.is("17: edges", x.amend(edge, 999, 999), 0);
        Due.are("17: nothing changed", Books.order(x, resting), 5, Books.RESTING, 500, 5, 0);
        Due.are("17: refusals", Books.refusals(x), 2, 0, 0, 0, 0, 8, 0);
    }

    private static void rule() {
        UncrossedBook x = new UncrossedBook();
        Due.is("18: at first 0", x.rule(3), 0);
        Due.is("18: what it was", x.rule(1), 3);
        Due.is("18: -1", x.rule(-1), -6);
        Due.is("18: 4", x.rule(4), -6);
        Due.is("18: status", x.status(4), 1);
        Due.is("18: what it was", x.rule(0), 1);
        Due.are("18: refusals", Books.refusals(x), 0, 0, 0, 0, 0, 2, 0);
    }

    private static void uncross() {
        UncrossedBook x = new UncrossedBook();
        x.limit(0, 0, 10, 502, 0);
        x.limit(1, 0, 5, 503, 0);
        x.limit(2, 1, 8, 498, 0);
        x.limit(3, 1, 4, 500, 0);
        x.limit(4, 1, 9, 505, 0);
        Due.is("19: volume", x.uncross(), 12);
        Due.are("19: first of both", Books.trade(x, 0), 1, 2, 500, 5);
        Due.are("19: next", Books.trade(x, 1), 0, 2, 500, 3);
        Due.are("19: and on", Books.trade(x, 2), 0, 3, 500, 4);
        Due.is("19: till the volume is done", x.trades(), 3);
        Due.are("19: rests on", Books.order(x, 0), 3, Books.RESTING, 502, 3, 7);
        Due.are("19: filled", Books.order(x, 3), 0, Books.FILLED, 500, 0, 4);
        Due.is("19: open", x.status(3), 1);
        Due.is("19: last", x.status(5), 500);
        Due.is("19: it is open", x.uncross(), -6);
        Due.are("19: refusals", Books.refusals(x), 0, 0, 0, 0, 0, 1, 0);
    }

    private static void uncrossHidden() {
        UncrossedBook x = new UncrossedBook();
        x.hidden(0, 0, 20, 500, 4);
        x.limit(1, 0, 5, 500, 0);
        x.limit(2, 1, 11, 500, 0);
        Due.is("19: all that is left counts", x.uncross(), 11);
        Due.are("19: whole", Books.trade(x, 0), 0, 2, 500, 11);
        Due.are("19: visible anew", Books.order(x, 0), 9, Books.RESTING, 500, 4, 11);
        Due.are("19: with its old time", Books.line(x, 0), 0, 1);
        x = Books.opened();
        x.hidden(0, 0, 20, 500, 4);
        x.hidden(0, 0, 20, 499, 4);
        x.market(2, 1, 3);
        x.close();
        x.uncross();
        Due.is("19: not one that didn't trade", x.orderOf(0, Books.VISIBLE), 1);
        x.close();
        x.limit(2, 1, 2, 500, 0);
        x.uncross();
        Due.are("19: anew, if it traded", Books.order(x, 0), 15, Books.RESTING, 500, 4, 5);
        x.close();
        x.limit(2, 1, 12, 500, 0);
        x.uncross();
        Due.are("19: what is left, if less", Books.order(x, 0), 3, Books.RESTING, 500, 3, 17);
    }

    private static void uncrossHiddenSells() {
        UncrossedBook x = new UncrossedBook();
        x.hidden(0, 1, 20, 500, 4);
        x.hidden(0, 1, 20, 501, 4);
        x.limit(1, 0, 9, 501, 0);
        x.limit(2, 0, 1, 500, 0);
        Due.is("19: volume", x.uncross(), 10);
        Due.are("19: to the last one", Books.trade(x, 1), 3, 0, 500, 1);
        Due.are("19: visible anew", Books.order(x, 0), 10, Books.RESTING, 500, 4, 10);
        x.market(3, 0, 3);
        x.close();
        x.limit(1, 0, 9, 500, 0);
        Due.is("19: all of it", x.uncross(), 7);
        Due.are("19: filled", Books.order(x, 0), 0, Books.FILLED, 500, 0, 20);
        x = Books.opened();
        x.hidden(0, 1, 20, 500, 4);
        x.market(1, 0, 3);
        x.close();
        x.limit(1, 0, 1, 500, 0);
        x.uncross();
        Due.are("19: a sell, visible anew", Books.order(x, 0), 16, Books.RESTING, 500, 4, 4);
    }

    private static void uncrossOwn() {
        UncrossedBook x = new UncrossedBook();
        x.rule(1);
        x.limit(0, 0, 5, 500, 0);
        x.limit(0, 1, 5, 500, 0);
        Due.is("19: no rule", x.uncross(), 5);
        Due.is("19: with oneself", x.trades(), 1);
    }

    private static void uncrossPegged() {
        UncrossedBook x = new UncrossedBook();
        x.pegged(0, 0, 5, 0);
        x.limit(0, 0, 5, 500, 0);
        x.pegged(1, 1, 5, 0);
        x.limit(1, 1, 9, 500, 0);
        Due.is("19: limit and hidden ones alone", x.uncross(), 5);
        Due.is("19: pegged ones rest", x.orderOf(0, Books.LEFT), 5);
    }

    private static void uncrossStops() {
        UncrossedBook x = new UncrossedBook();
        x.limit(0, 0, 5, 500, 0);
        x.limit(1, 1, 9, 500, 0);
        x.halt(2, 0, 3, 500);
        x.halt(2, 1, 3, 499);
        Due.is("19: volume", x.uncross(), 5);
        Due.are("19: a stop goes in", Books.trade(x, 1), 2, 1, 500, 3);
        Due.is("19: this waits", x.orderOf(3, Books.STATE), Books.WAITING);
        x.close();
        x.halt(3, 0, 3, 500);
        x.cancel(1);
        Due.is("19: volume 0", x.uncross(), 0);
        Due.is("19: stops go in all the same", x.orderOf(4, Books.STATE), Books.GONE);
    }

    /** The PRICE by LAST, of a book with the told TEXT. */
    private static int priceOf(int last, String text) {
        UncrossedBook x = last == 0 ? new UncrossedBook() : Books.openedAt(last);
        if (last != 0) {
            x.close();
        }
        Books.readText(x, text);
        return x.crossing(0);
    }

    private static void price() {
        Due.is("19: greatest volume", priceOf(0, "a+5@400;a+5@300;b-9@300;b-9@400"), 300);
        Due.is("19: least difference", priceOf(0, "a+5@700;a+4@600;b-5@300"), 601);
        Due.is("19: least difference", priceOf(0, "a+5@400;b-5@300;b-4@200;a+4@300"), 300);
        Due.is("19: least difference, sells", priceOf(0, "a+5@400;b-5@100;b-4@200"), 199);
        Due.is("19: least difference, of several", priceOf(0, "a+5@400;a+1@390;a+2@380;b-5@100"), 400);
        Due.is("19: least difference, yet some", priceOf(0, "a+7@400;a+1@390;b-5@100"), 400);
        Due.is("19: of volume 1", priceOf(0, "a+1@400;a+1@350;b-1@100"), 400);
        Due.is("19: nearest to 500", priceOf(0, "a+5@700;b-5@300"), 500);
        Due.is("19: nearest to 500, above", priceOf(0, "a+5@900;b-5@600"), 600);
        Due.is("19: nearest to 500, below", priceOf(0, "a+5@300;b-5@100"), 300);
        Due.is("19: nearest to last", priceOf(650, "a+5@700;b-5@300"), 650);
        Due.is("19: nearest to last, below", priceOf(999, "a+5@700;b-5@300"), 700);
        Due.is("19: nearest to last, above", priceOf(1, "a+5@700;b-5@300"), 300);
        Due.is("19: of these the least", priceOf(500, "a+5@502;b-5@498;a+4@500;b-4@500"), 500);
        // Prices as good as one another stand side by side, so that two of them
        // are never as near to LAST: "of these the least" can't be told apart.
        Due.is("19: the edge 1", priceOf(0, "a+5@1;b-5@1"), 1);
        Due.is("19: the edge 999", priceOf(0, "a+5@999;b-5@999"), 999);
        Due.is("19: none", priceOf(0, "a+5@400;b-5@401"), 0);
    }

    private static void close() {
        UncrossedBook x = new UncrossedBook();
        Due.is("20: it is the auction", x.close(), -6);
        x.limit(0, 0, 5, 500, 0);
        x.pegged(0, 1, 5, 1);
        x.halt(0, 1, 5, 1);
        x.limit(0, 0, 5, 400, 1);
        x.uncross();
        Due.is("20: how many rest", x.close(), 2);
        Due.is("20: phase", x.status(3), 0);
        Due.is("20: nothing trades", x.limit(0, 1, 5, 500, 0), 4);
        Due.is("20: nothing trades", x.trades(), 0);
        Due.is("20: again", x.close(), -6);
        Due.are("20: refusals", Books.refusals(x), 0, 0, 0, 0, 0, 2, 0);
    }

    private static void crossing() {
        UncrossedBook x = new UncrossedBook();
        x.limit(0, 0, 5, 510, 0);
        x.limit(0, 1, 3, 505, 0);
        Due.is("21: price", x.crossing(0), 505);
        Due.is("21: volume", x.crossing(1), 3);
        Due.is("21: nothing trades", x.trades(), 0);
        Due.is("21: it is the auction still", x.status(3), 0);
        Due.is("21: another what", x.crossing(2), -5);
        Due.is("21: another what", x.crossing(-1), -5);
        x.uncross();
        Due.is("21: what first", x.crossing(2), -5);
        Due.is("21: it is open", x.crossing(0), -6);
        x.close();
        Due.is("21: none", x.crossing(0), 0);
        Due.is("21: none", x.crossing(1), 0);
        Due.are("21: refusals", Books.refusals(x), 0, 0, 0, 0, 3, 1, 0);
    }
}
