/** Edges of "3. WHAT COMES OF IT". */
public final class EdgeOutcomeTest {
    private static final Edge COMES = Edge.ahead("3. WHAT COMES OF IT");

    private EdgeOutcomeTest() {
    }

    public static void main(String[] args) {
        add();
        Edge.run();
    }

    static void add() {
        trades();
        tradesOfNone();
        positions();
        depth();
        ahead();
        sweep();
        sweepAll();
        wrong();
        texts();
        textNumbers();
        textComes();
        faultsInItems();
        faultsAtTheEnd();
        faultsOfNumbers();
        faultsOfOtherElements();
        draws();
        drawsOfSeeds();
        shelves();
        lowestBits();
        ints();
    }

    private static void trades() {
        String kept = "TRADES have numbers, from 0 on, of which the first 200 are kept:";
        COMES.holds(kept, "number 199 is, 200 isn't", Books::opened, x -> {
            x.hidden(0, 1, 201, 500, 1);
            x.market(1, 0, 199);
            Due.is("199 there were: 198", x.trade(198, 3), 1);
            Due.is("199 there were: 199", x.trade(199, 3), -5);
            x.market(2, 0, 2);
            Due.are("number 199", Books.trade(x, 199), -1, 0, 500, 1);
            Due.is("number 200", x.trade(200, 3), -5);
            Due.is("trades()", x.trades(), 201);
        });
        COMES.holds(kept, "what is kept stays so, whatever comes later", Books::opened, x -> {
            x.limit(3, 1, 7, 400, 0);
            x.hidden(0, 1, 999, 500, 1);
            x.market(1, 0, 300);
            Due.are("number 0", Books.trade(x, 0), -1, 0, 400, 7);
            Due.are("number 1", Books.trade(x, 1), -1, 1, 500, 1);
        });
        COMES.holds(kept, "by uncross() and what comes then, on", x -> {
            x.limit(0, 0, 5, 500, 0);
            x.limit(1, 1, 2, 500, 0);
            x.uncross();
            x.market(2, 1, 1);
            Due.are("number 0", Books.trade(x, 0), 0, 1, 500, 2);
            Due.are("number 1", Books.trade(x, 1), 0, -1, 500, 1);
        });
    }

    private static void tradesOfNone() {
        String numbers = "BUY and SELL number (NONE: a MARKET one), PRICE, QUANTITY.";
        COMES.holds(numbers, "a MARKET BUY, a MARKET SELL, two ORDERS", Books::opened, x -> {
            x.limit(0, 1, 5, 510, 0);
            x.limit(0, 0, 5, 490, 0);
            x.market(1, 0, 1);
            x.market(1, 1, 2);
            x.limit(1, 1, 3, 490, 0);
            x.limit(1, 0, 4, 510, 0);
            Due.are("a MARKET BUY", Books.trade(x, 0), -1, 0, 510, 1);
            Due.are("a MARKET SELL", Books.trade(x, 1), 1, -1, 490, 2);
            Due.are("a SELL that came", Books.trade(x, 2), 1, 2, 490, 3);
            Due.are("a BUY that came", Books.trade(x, 3), 3, 0, 510, 4);
        });
        COMES.holds(numbers, "NOW, ALL ones and STOPS have one", Books::opened, x -> {
            x.limit(0, 1, 9, 500, 0);
            x.limit(1, 0, 1, 500, 1);
            x.limit(1, 0, 1, 500, 2);
            x.halt(1, 0, 1, 500);
            Due.is("NOW", x.trade(0, 0), 1);
            Due.is("ALL", x.trade(1, 0), 2);
            Due.is("STOP", x.trade(2, 0), 3);
        });
    }

    private static void positions() {
        String position = "POSITION of an OWNER: what it bought less what it sold;";
        COMES.holds(position, "below 0, and 0 with oneself", Books::opened, x -> {
            x.limit(0, 1, 5, 500, 0);
            x.market(0, 0, 2);
            Due.is("with oneself", x.position(0), 1000000);
            x.market(1, 0, 3);
            Due.is("sold", x.position(0), 999997);
            Due.is("bought", x.position(1), 1000003);
        });
        COMES.holds(position, "not what RULE 3 takes, nor what is GONE", Books::opened, x -> {
            x.rule(3);
            x.limit(0, 1, 5, 500, 0);
            x.market(0, 0, 5);
            x.limit(0, 1, 5, 500, 1);
            Due.is("position(0)", x.position(0), 1000000);
        });
        String cash = "CASH: what it got for what it sold less what it paid (all trades).";
        COMES.holds(cash, "below 0, and 0 with oneself", Books::opened, x -> {
            x.limit(0, 1, 5, 500, 0);
            x.market(0, 0, 2);
            Due.is("with oneself", x.cash(0), 1000000000);
            x.market(1, 0, 3);
            Due.is("got", x.cash(0), 1000001500);
            Due.is("paid", x.cash(1), 999998500);
        });
        COMES.holds(cash, "of trades that aren't kept too", Books::opened, x -> {
            x.hidden(0, 1, 999, 500, 1);
            x.market(1, 0, 200);
            Due.is("of 200", x.cash(1), 1000000000 - 200 * 500);
            x.market(1, 0, 1);
            Due.is("of 201", x.cash(1), 1000000000 - 201 * 500);
            Due.is("POSITION of 201", x.position(1), 1000201);
        });
    }

    private static void depth() {
        String depth = "DEPTH: of a SIDE the k-th PRICE by RANK, and what is VISIBLE of all that have it together.";
        COMES.holds(depth, "PRICES 1 apart", x -> {
            x.limit(0, 1, 5, 500, 0);
            x.limit(0, 1, 6, 501, 0);
            x.limit(0, 1, 7, 500, 0);
            Due.is("depth(1, 0, 0)", x.depth(1, 0, 0), 500);
            Due.is("depth(1, 0, 1)", x.depth(1, 0, 1), 12);
            Due.is("depth(1, 1, 0)", x.depth(1, 1, 0), 501);
            Due.is("depth(1, 1, 1)", x.depth(1, 1, 1), 6);
        });
        COMES.holds(depth, "of a HIDDEN one what is VISIBLE", Books::rich, x ->
                Due.is("depth(0, 0, 1)", x.depth(0, 0, 1), 3));
        COMES.holds(depth, "a PEGGED one's PRICE: its own, or one with others", Books::rich, x -> {
            Due.is("its own", x.depth(0, 1, 0), 489);
            Due.is("of 7", x.depth(0, 1, 1), 7);
            x.limit(0, 0, 2, 489, 0);
            Due.is("with another", x.depth(0, 1, 1), 9);
            Due.is("no third", x.depth(0, 2, 0), -1);
        });
        COMES.holds(depth, "neither those that WAIT nor PEGGED ones without a PRICE", x -> {
            x.halt(0, 0, 5, 500);
            x.pegged(0, 0, 5, 0);
            Due.is("depth(0, 0, 0)", x.depth(0, 0, 0), -1);
        });
    }

    private static void ahead() {
        String ahead = "AHEAD of a RESTING one: what is VISIBLE of all ahead of it by RANK.";
        COMES.holds(ahead, "the first: nothing", Books::rich, x -> {
            Due.is("SELL", x.ahead(0), 0);
            Due.is("BUY", x.ahead(1), 0);
        });
        COMES.holds(ahead, "of a HIDDEN one what is VISIBLE", Books::rich, x -> {
            Due.is("ahead(2)", x.ahead(2), 3);
            x.market(7, 1, 2);
            Due.is("1 is VISIBLE", x.ahead(2), 1);
            x.market(7, 1, 1);
            Due.is("anew", x.ahead(2), 6);
        });
        COMES.holds(ahead, "PEGGED ones too, not itself, not those behind", x -> {
            x.limit(0, 0, 5, 500, 0);
            x.pegged(0, 0, 6, 0);
            x.pegged(0, 0, 7, 0);
            x.limit(0, 0, 8, 499, 0);
            Due.is("ahead(1)", x.ahead(1), 5);
            Due.is("ahead(2)", x.ahead(2), 11);
            Due.is("ahead(3)", x.ahead(3), 18);
        });
        COMES.holds(ahead, "of one PRICE by TIME; none of the other SIDE", x -> {
            x.limit(0, 0, 5, 500, 0);
            x.limit(0, 0, 6, 500, 0);
            x.limit(0, 1, 7, 501, 0);
            Due.is("ahead(0)", x.ahead(0), 0);
            Due.is("ahead(1)", x.ahead(1), 5);
            Due.is("ahead(2)", x.ahead(2), 0);
        });
    }

    private static final String SWEEP = "A SWEEP of a SIDE, a QUANTITY: what it would cost to trade with all of the other"
            + " SIDE by RANK, whatever the RULE, whole LEFT of each, till it is done (NONE: there isn't that much).";

    private static void sweep() {
        COMES.holds(SWEEP, "LEFT of the first, 1 less, 1 more", x -> {
            x.hidden(0, 1, 5, 500, 2);
            x.limit(0, 1, 3, 510, 0);
            Due.is("4", x.sweep(0, 4), 2000);
            Due.is("5", x.sweep(0, 5), 2500);
            Due.is("6", x.sweep(0, 6), 3010);
        });
        COMES.holds(SWEEP, "all there is, 1 more", x -> {
            x.hidden(0, 1, 5, 500, 2);
            x.limit(0, 1, 3, 510, 0);
            Due.is("8", x.sweep(0, 8), 4030);
            Due.is("9", x.sweep(0, 9), -1);
        });
        COMES.holds(SWEEP, "nothing there", x -> {
            Due.is("BUY 1", x.sweep(0, 1), -1);
            Due.is("SELL 1", x.sweep(1, 1), -1);
        });
        for (int rule = 0; rule < 4; rule++) {
            int byRule = rule;
            COMES.holds(SWEEP, "RULE " + rule + " is of no matter", x -> {
                x.rule(byRule);
                for (int owner = 0; owner < 8; owner++) {
                    x.limit(owner, 1, 1, 500 + owner, 0);
                }
                Due.is("8", x.sweep(0, 8), 4028);
            });
        }
    }

    private static void sweepAll() {
        COMES.holds(SWEEP, "in the AUCTION and OPEN", x -> {
            x.limit(0, 0, 5, 500, 0);
            Due.is("AUCTION", x.sweep(1, 5), 2500);
            x.uncross();
            Due.is("OPEN", x.sweep(1, 5), 2500);
            Due.is("trades()", x.trades(), 0);
        });
        COMES.holds(SWEEP, "PEGGED ones at their PRICE, though what they follow goes ahead", x -> {
            x.limit(0, 1, 5, 500, 0);
            x.pegged(0, 1, 5, 3);
            Due.is("10", x.sweep(0, 10), 2500 + 2515);
            x.cancel(0);
            Due.is("without a PRICE", x.sweep(0, 1), -1);
        });
        COMES.holds(SWEEP, "neither STOPS nor those GONE", x -> {
            x.halt(0, 1, 5, 1);
            x.limit(0, 1, 5, 500, 1);
            Due.is("1", x.sweep(0, 1), -1);
        });
        COMES.holds(SWEEP, "by RANK: a SELL at the greatest PRICE first", x -> {
            x.limit(0, 0, 5, 400, 0);
            x.limit(0, 0, 5, 500, 0);
            Due.is("6", x.sweep(1, 6), 2900);
        });
    }

    private static void wrong() {
        String wrong = "A told ROW of trades, fours of BUY, SELL, PRICE, QUANTITY: WRONG:"
                + " the first four that isn't as the trade of that number; NONE.";
        COMES.holds(wrong, "none is WRONG", Books::rich, x -> Due.is("judge(5, 1)", x.judge(5, 1), -1));
        COMES.holds(wrong, "each place of each four, one less and one more", Books::rich, x -> {
            long[] told = {1, -1, 490, 2, 1, 5, 490, 1};
            for (int i = 0; i < 8; i++) {
                Books.putRow(x, 0, 2, told);
                x.set(0, i, told[i] - 1);
                Due.is("one less at " + i, x.judge(0, 2), i / 4);
                x.set(0, i, told[i] + 1);
                Due.is("one more at " + i, x.judge(0, 2), i / 4);
            }
        });
        COMES.holds(wrong, "there was no trade of that number", x -> {
            x.row(0, 2, 4);
            Due.is("judge(0, 1)", x.judge(0, 1), 0);
            Due.is("judge(0, 0)", x.judge(0, 0), -1);
        });
    }

    private static void reads(String sentence, String edge, String text, int items) {
        COMES.holds(sentence, edge + ": " + text, x ->
                Due.is("read", Books.readText(x, text), items));
    }

    private static void texts() {
        String text = "A TEXT is read from a ROW of letters: ITEM, then any number of times ; and ITEM:";
        reads(text, "one ITEM", "a+1@1", 1);
        reads(text, "two", "a+1@1;a+1@1", 2);
        reads(text, "26, as many as fit in a ROW", "a+1@1" + ";a+1@1".repeat(25), 26);
        reads(text, "none", "", -6);
        reads(text, "a ; alone", ";", -6);
        reads(text, "a ; ahead", ";a+1@1", -6);
        reads(text, "a ; behind", "a+1@1;", -6);
        reads(text, "two ; between", "a+1@1;;a+1@1", -6);
        String item = "an OWNER (a to h), + (BUY) or - (SELL), QUANTITY, @ PRICE, then maybe h SHOW;";
        reads(item, "a", "a+1@1", 1);
        reads(item, "h", "h+1@1", 1);
        reads(item, "the letter ahead of a", "`+1@1", -6);
        reads(item, "the letter behind h", "i+1@1", -6);
        reads(item, "a great letter", "A+1@1", -6);
        reads(item, "- sells", "a-1@1", 1);
        reads(item, "what stands between + and -", "a,1@1", -6);
        reads(item, "no QUANTITY", "a+@1", -6);
        reads(item, "no @", "a+1", -6);
        reads(item, "no PRICE", "a+1@", -6);
        reads(item, "no PRICE, with a SHOW", "a+1@h1", -6);
        reads(item, "no SHOW", "a+1@1h", -6);
        reads(item, "two SHOWS", "a+1@1h1h1", -6);
        reads(item, "an OWNER h with a SHOW", "h+1@1h1;h+1@1h1", 2);
    }

    private static void textNumbers() {
        String numbers = "numbers 1 to 3 digits (as many as stand there up to 3); no blanks.";
        reads(numbers, "1 digit", "a+9@9h9", 1);
        reads(numbers, "3 digits", "a+999@999h999", 1);
        reads(numbers, "a fourth in the QUANTITY", "a+1000@1", -6);
        reads(numbers, "a fourth in the PRICE", "a+1@1000", -6);
        reads(numbers, "a fourth in the SHOW", "a+1@1h1000", -6);
        reads(numbers, "a fourth, with 0 ahead", "a+0001@1", -6);
        reads(numbers, "a sign ahead", "a++1@1", -6);
        reads(numbers, "a blank ahead", " a+1@1", -6);
        reads(numbers, "a blank behind", "a+1@1 ", -6);
        reads(numbers, "a blank between", "a+ 1@1", -6);
        reads(numbers, "a blank behind ;", "a+1@1; a+1@1", -6);
        COMES.holds(numbers, "0 ahead counts as a digit: 001 is 1, 010 is 10", x -> {
            Due.is("read", Books.readText(x, "a+001@010h099"), 1);
            Due.are("the ORDER", Books.order(x, 0), 1, Books.RESTING, 10, 1, 0);
        });
    }

    private static void textComes() {
        String comes = "Each comes as a LIMIT or HIDDEN one, one behind the other, if all of it is a TEXT,"
                + " and there is room for all.";
        COMES.holds(comes, "with h a HIDDEN one, else a LIMIT one", x -> {
            Books.readText(x, "a+5@500;a+5@500h1;a+5@500h5");
            Due.is("KIND of 0", x.orderOf(0, 0), 1);
            Due.is("KIND of 1", x.orderOf(1, 0), 2);
            Due.is("KIND of 2", x.orderOf(2, 0), 2);
            Due.is("VISIBLE of 1", x.orderOf(1, 6), 1);
        });
        COMES.holds(comes, "OPEN: the second trades with the first", Books::opened, x -> {
            Due.is("read", Books.readText(x, "a+5@500;b-5@500"), 2);
            Due.are("trade 0", Books.trade(x, 0), 0, 1, 500, 5);
        });
        COMES.holds(comes, "a FAULT in the last: none comes", Books::opened, x -> {
            Due.is("read", Books.readText(x, "a+5@500;b-5@500;c"), -6);
            Due.is("status(0)", x.status(0), 0);
            Due.is("trades()", x.trades(), 0);
        });
        COMES.holds(comes, "room for all but one: none comes", () -> Books.withOrders(59), x -> {
            Due.is("read", Books.readText(x, "a+5@500;b-5@500"), -7);
            Due.is("status(0)", x.status(0), 59);
            Due.is("status(1)", x.status(1), 0);
        });
        COMES.holds(comes, "just room for all", () -> Books.withOrders(58), x -> {
            Due.is("read", Books.readText(x, "a+5@500;b-5@500"), 2);
            Due.is("status(1)", x.status(1), 2);
        });
    }

    private static final String FAULT = "The FAULT: the first place at which an element can't stand as such texts go on"
            + " (the number of elements, if it ends too early);";

    private static void fault(String sentence, String text, int place) {
        COMES.holds(sentence, place < 0 ? "none: " + text : "at " + place + ": " + text, x -> {
            Books.readText(x, text);
            Due.is("fault()", x.fault(), place);
        });
    }

    private static void faultsInItems() {
        fault(FAULT, "x+1@1", 0);
        fault(FAULT, "ab", 1);
        fault(FAULT, "a=1@1", 1);
        fault(FAULT, "a+@1", 2);
        fault(FAULT, "a+h@1", 2);
        fault(FAULT, "a+1-1", 3);
        fault(FAULT, "a+12h1", 4);
        fault(FAULT, "a+123@@", 6);
        fault(FAULT, "a+1@+1", 4);
        fault(FAULT, "a+1@1@1", 5);
        fault(FAULT, "a+1@1hx", 6);
        fault(FAULT, "a+1@1h1h", 7);
        fault(FAULT, "a+1@1;x", 6);
        fault(FAULT, "a+1@1,a+1@1", 5);
        fault(FAULT, "a+1@1h1,", 7);
        fault(FAULT, "a+1@1;;", 6);
        fault(FAULT, "i;x", 0);
        fault(FAULT, "a+1/@1", 3);
        fault(FAULT, "a+1:@1", 3);
        fault(FAULT, "a+1@1;h-22@333h4", -1);
    }

    private static void faultsAtTheEnd() {
        fault(FAULT, "", 0);
        fault(FAULT, "a", 1);
        fault(FAULT, "a+", 2);
        fault(FAULT, "a+1", 3);
        fault(FAULT, "a+123", 5);
        fault(FAULT, "a+1@", 4);
        fault(FAULT, "a+1@1h", 6);
        fault(FAULT, "a+1@1;", 6);
        fault(FAULT, "a+1@1h1;", 8);
        fault(FAULT, "a+1@1;b", 7);
        fault(FAULT, "a+1@1;b-2@", 10);
        fault(FAULT, "a+1@1" + ";a+1@1".repeat(25) + ";b-2@", 160);
        fault(FAULT, "a+1@1" + ";a+1@1".repeat(25) + ";b-2x", 159);
    }

    private static void faultsOfNumbers() {
        String number = "of a number that may not be its first digit.";
        fault(number, "a+0@1", 2);
        fault(number, "a+00@1", 2);
        fault(number, "a+000@1", 2);
        fault(number, "a+1@0", 4);
        fault(number, "a+1@00;", 4);
        fault(number, "a+12@000h1", 5);
        fault(number, "a+1@1h0", 6);
        fault(number, "a+1@1h00;", 6);
        fault(number, "a+1@1h000", 6);
        fault(number, "a+1@1;b-0@0", 8);
        fault(number, "a+0", 2);
        fault(number, "a+0x", 2);
        fault(number, "a+0000", 2);
        fault(number, "a+1@0001", 4);
        fault(number, "a+001@1", -1);
        // A number of 3 digits is at most 999, which may be: a fourth digit is what can't stand.
        fault(FAULT, "a+9999@1", 5);
        fault(FAULT, "a+0010@1", 5);
        fault(FAULT, "a+1@1000", 7);
        fault(FAULT, "a+1@1h1000", 9);
    }

    /** The FAULT of a+1@1 as ints, with one element put otherwise. */
    private static void faultOf(String edge, int sort, int i, long v, int place) {
        COMES.holds(FAULT, edge, x -> {
            Books.write(x, 0, sort, "a+1@1");
            x.set(0, i, v);
            x.read(0);
            Due.is("fault()", x.fault(), place);
        });
    }

    private static void faultsOfOtherElements() {
        faultOf("an element below 0", 2, 0, -1, 0);
        faultOf("an element below 0 as the last", 2, 4, -1, 4);
        faultOf("an element 0", 2, 1, 0, 1);
        faultOf("an int whose lowest 16 bits are a letter", 2, 0, 97 + 65536, 0);
        faultOf("an int whose lowest 8 bits are a digit", 2, 2, 49 + 256, 2);
        faultOf("a short whose lowest 8 bits are a letter", 1, 0, 97 + 256, 0);
        faultOf("a short that keeps its lowest 16 bits", 1, 0, 97 + 65536, -1);
        faultOf("a long whose lowest 32 bits are a letter", 3, 0, 97 + (1L << 32), -1);
        faultOf("a long whose lowest 32 bits are none", 3, 0, 97 + (1L << 31), 0);
    }

    private static void draws() {
        String draws = "DRAWS, n times: OWNER a DRAW below 8, SIDE one below 2, QUANTITY one below 20, and 1,"
                + " PRICE one below 21, and 490: comes as a LIMIT one, if there is room.";
        COMES.holds(draws, "in that order, from SEED 1", x -> {
            // The upper 16 bits of the SEEDS from 1 on: 16838, 38526, 10113, 50283.
            x.draws(1);
            Due.is("KIND", x.orderOf(0, 0), 1);
            Due.is("OWNER", x.orderOf(0, 1), 16838 % 8);
            Due.is("SIDE", x.orderOf(0, 2), 38526 % 2);
            Due.is("QUANTITY", x.orderOf(0, 3), 10113 % 20 + 1);
            Due.is("PRICE", x.orderOf(0, 5), 50283 % 21 + 490);
        });
        COMES.holds(draws, "the least of each", x -> {
            x.seed(3675);
            x.draws(1);
            Due.is("OWNER", x.orderOf(0, 1), 0);
            Due.is("SIDE", x.orderOf(0, 2), 0);
            Due.is("QUANTITY", x.orderOf(0, 3), 1);
            Due.is("PRICE", x.orderOf(0, 5), 490);
        });
        COMES.holds(draws, "the most of each", x -> {
            x.seed(1800);
            x.draws(1);
            Due.is("OWNER", x.orderOf(0, 1), 7);
            Due.is("SIDE", x.orderOf(0, 2), 1);
            Due.is("QUANTITY", x.orderOf(0, 3), 20);
            Due.is("PRICE", x.orderOf(0, 5), 510);
        });
        COMES.holds(draws, "no room: drawn all the same", Books::full, x -> {
            x.seed(1);
            Due.is("draws(1)", x.draws(1), 0);
            Due.is("SEED after four DRAWS", x.status(6), after(after(after(after(1)))));
        });
        COMES.holds(draws, "room for the first alone", () -> Books.withOrders(59), x -> {
            Due.is("draws(2)", x.draws(2), 1);
            Due.is("OWNER", x.orderOf(59, 1), 16838 % 8);
        });
        COMES.holds(draws, "OPEN: it GOES IN", Books::opened, x -> {
            x.limit(7, 1, 999, 490, 0);
            x.draws(1);
            Due.is("14 that buy at 499", x.orderOf(1, 7), 14);
        });
    }

    /** SEED times 1103515245, and 12345, its lowest 32 bits. */
    private static int after(int seed) {
        return (int) (seed * 1103515245L + 12345L);
    }

    private static void drawsOfSeeds() {
        String draw = "A DRAW below n: SEED (1 at first) becomes SEED times 1103515245, and 12345 (an int, wrapping);"
                + " its upper 16 bits, no sign, modulo n.";
        COMES.holds(draw, "1 at first", x -> Due.is("status(6)", x.status(6), 1));
        int[] seeds = {0, 1, -1, Integer.MIN_VALUE, Integer.MAX_VALUE, 77, -123456789};
        for (int seed : seeds) {
            COMES.holds(draw, "SEED " + seed, x -> {
                x.seed(seed);
                x.draws(1);
                int first = after(seed);
                int second = after(first);
                int third = after(second);
                int fourth = after(third);
                Due.is("SEED", x.status(6), fourth);
                Due.is("OWNER", x.orderOf(0, 1), ((first & 0xffffffffL) >> 16) % 8);
                Due.is("SIDE", x.orderOf(0, 2), ((second & 0xffffffffL) >> 16) % 2);
                Due.is("QUANTITY", x.orderOf(0, 3), ((third & 0xffffffffL) >> 16) % 20 + 1);
                Due.is("PRICE", x.orderOf(0, 5), ((fourth & 0xffffffffL) >> 16) % 21 + 490);
            });
        }
        COMES.holds(draw, "it goes on with the next call", x -> {
            x.draws(1);
            x.draws(1);
            x.seed(1);
            x.draws(2);
            for (int what = 1; what < 6; what++) {
                Due.is("orderOf(2, " + what + ")", x.orderOf(2, what), x.orderOf(0, what));
                Due.is("orderOf(3, " + what + ")", x.orderOf(3, what), x.orderOf(1, what));
            }
        });
    }

    private static void shelves() {
        String shelves = "SHELVES 0 to 7 hold NOTHING (at first), a ROW, or one of the ORDERS.";
        COMES.holds(shelves, "NOTHING at first, in all eight", x -> {
            for (int s = 0; s < 8; s++) {
                Due.is("holds(" + s + ")", x.holds(s), -1);
                Due.is("set(" + s + ", 0, 1)", x.set(s, 0, 1), -3);
            }
        });
        COMES.holds(shelves, "0 and 7 are, -1 and 8 are none", x -> {
            Due.is("0", x.row(0, 0, 1), 1);
            Due.is("7", x.row(7, 0, 1), 1);
            Due.is("-1", x.row(-1, 0, 1), -1);
            Due.is("8", x.row(8, 0, 1), -1);
        });
        COMES.holds(shelves, "one of them: a ROW drives out an ORDER, an ORDER a ROW", Books::rich, x -> {
            x.row(1, 2, 1);
            Due.is("holds(1)", x.holds(1), 102);
            x.show(0, 2);
            Due.is("holds(0)", x.holds(0), 2);
        });
        String row = "A ROW has a SORT (0 bytes, 1 shorts, 2 ints, 3 longs) and 0 to 160 elements, 0 at first;";
        COMES.holds(row, "0 and 160 are, -1 and 161 are none", x -> {
            Due.is("0", x.row(0, 0, 0), 1);
            Due.is("160", x.row(0, 0, 160), 1);
            Due.is("-1", x.row(0, 0, -1), -4);
            Due.is("161", x.row(0, 0, 161), -7);
        });
        COMES.holds(row, "SORTS 0 and 3 are, -1 and 4 are none", x -> {
            Due.is("0", x.row(0, 0, 1), 1);
            Due.is("3", x.row(0, 3, 1), 1);
            Due.is("-1", x.row(0, -1, 1), -6);
            Due.is("4", x.row(0, 4, 1), -6);
        });
        COMES.holds(row, "0 at first, the last of 160 too", x -> {
            x.row(0, 3, 160);
            x.set(0, 159, 5);
            x.set(0, 0, 5);
            x.row(0, 3, 160);
            Due.is("element(0, 0)", x.element(0, 0), 0);
            Due.is("element(0, 159)", x.element(0, 159), 0);
        });
    }

    private static void bits(int sort, String edge, long put, long kept) {
        COMES.holds("what is put in keeps its lowest bits.", edge, x -> {
            x.row(0, sort, 1);
            Due.is("set", x.set(0, 0, put), 1);
            Due.is("element(0, 0)", x.element(0, 0), kept);
        });
    }

    private static void lowestBits() {
        bits(0, "a byte: 127", 127, 127);
        bits(0, "a byte: 128 wraps", 128, -128);
        bits(0, "a byte: -128", -128, -128);
        bits(0, "a byte: -129 wraps", -129, 127);
        bits(0, "a byte: 256 wraps", 256, 0);
        bits(1, "a short: 32767", 32767, 32767);
        bits(1, "a short: 32768 wraps", 32768, -32768);
        bits(1, "a short: -32769 wraps", -32769, 32767);
        bits(1, "a short: 65536 wraps", 65536, 0);
        bits(2, "an int: 2147483647", 2147483647L, 2147483647L);
        bits(2, "an int: 2147483648 wraps", 2147483648L, -2147483648L);
        bits(2, "an int: -2147483649 wraps", -2147483649L, 2147483647L);
        bits(2, "an int: 2 to the 32nd wraps", 1L << 32, 0);
        bits(3, "a long: the most", Long.MAX_VALUE, Long.MAX_VALUE);
        bits(3, "a long: the least", Long.MIN_VALUE, Long.MIN_VALUE);
    }

    private static void ints() {
        String ints = "All is read as ints (of longs the lowest 32 bits).";
        COMES.holds(ints, "a told ROW of longs, with other upper bits", Books::rich, x -> {
            Books.putRow(x, 0, 3, 1 + (1L << 32), 0xffffffffL, 490 - (1L << 40), 2 + (1L << 63));
            Due.is("judge(0, 1)", x.judge(0, 1), -1);
        });
        COMES.holds(ints, "a told ROW of longs, with another lowest bit", Books::rich, x -> {
            Books.putRow(x, 0, 3, 1, -1, 490, 3);
            Due.is("judge(0, 1)", x.judge(0, 1), 0);
        });
        COMES.holds(ints, "bytes and shorts have a sign", x -> {
            x.uncross();
            x.limit(0, 1, 9, 100, 0);
            x.market(1, 0, 3);
            Books.putRow(x, 0, 0, 255, 0, 100, 3);
            Due.is("bytes", x.judge(0, 1), -1);
            Books.putRow(x, 0, 1, 65535, 0, 100, 3);
            Due.is("shorts", x.judge(0, 1), -1);
        });
        COMES.holds(ints, "a TEXT of longs, with other upper bits", x -> {
            Books.write(x, 0, 3, "a+1@1");
            for (int i = 0; i < 5; i++) {
                x.set(0, i, x.element(0, i) - (1L << 32) * (i + 1));
            }
            Due.is("read(0)", x.read(0), 1);
        });
    }
}
