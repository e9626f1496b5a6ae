/** Promises 14 and 15: texts, and their faults. */
public final class TextTest {
    private TextTest() {
    }

    public static void main(String[] args) {
        read();
        readGoesIn();
        readRefusals();
        readRoom();
        fault();
        faults();
        numbers();
        longest();
        otherSorts();
        Due.end();
    }

    private static void read() {
        UncrossedBook x = new UncrossedBook();
        Due.is("14: one item", Books.readText(x, "a+1@1"), 1);
        Due.is("14: three items", Books.readText(x, "h-999@999;b+12@345h6;c-007@010h020"), 3);
        Due.are("14: a limit one", Books.order(x, 0), 1, Books.RESTING, 1, 1, 0);
        Due.are("14: edges", Books.order(x, 1), 999, Books.RESTING, 999, 999, 0);
        Due.are("14: a hidden one", Books.order(x, 2), 12, Books.RESTING, 345, 6, 0);
        Due.are("14: digits 0 ahead", Books.order(x, 3), 7, Books.RESTING, 10, 7, 0);
        int[] kinds = {1, 1, 2, 2};
        int[] owners = {0, 7, 1, 2};
        int[] sides = {0, 1, 0, 1};
        for (int o = 0; o < 4; o++) {
            Due.is("14: kind", x.orderOf(o, 0), kinds[o]);
            Due.is("14: owner", x.orderOf(o, 1), owners[o]);
            Due.is("14: side", x.orderOf(o, 2), sides[o]);
        }
        Due.is("14: the fault", x.fault(), -1);
    }

    private static void readGoesIn() {
        UncrossedBook x = Books.opened();
        x.halt(5, 0, 2, 500);
        Due.is("14: goes in", Books.readText(x, "a-5@500;b+3@500;c-4@501"), 3);
        Due.is("14: one behind the other", x.trades(), 2);
        Due.are("14: the second with the first", Books.trade(x, 0), 2, 1, 500, 3);
        Due.are("14: then the stop", Books.trade(x, 1), 0, 1, 500, 2);
        Due.is("14: then the third", x.orderOf(3, Books.LEFT), 4);
    }

    private static void readRefusals() {
        UncrossedBook x = new UncrossedBook();
        x.limit(0, 0, 1, 1, 0);
        x.show(1, 0);
        Books.write(x, 0, 0, "a+1@1;");
        Due.is("14: shelf", x.read(-1), -1);
        Due.is("14: shelf", x.read(8), -1);
        Due.is("14: order", x.read(1), -2);
        Due.is("14: nothing", x.read(2), -3);
        Due.is("14: a fault", x.read(0), -6);
        Due.is("14: none of it came", x.status(0), 1);
        Due.are("14: refusals", Books.refusals(x), 2, 1, 1, 0, 0, 1, 0);
    }

    private static void readRoom() {
        UncrossedBook x = Books.withOrders(58);
        Due.is("14: no room for all", Books.readText(x, "a+1@1;a+1@1;a+1@1"), -7);
        Due.is("14: none came", x.status(0), 58);
        Due.is("14: the fault of it", x.fault(), -1);
        Due.is("14: fault before room", Books.readText(x, "a+1@1;a+1@1;a+1@1;"), -6);
        Due.is("14: just room", Books.readText(x, "a+1@1;a+1@1"), 2);
        Due.is("14: full", Books.readText(x, "a+1@1"), -7);
        Due.are("14: refusals", Books.refusals(x), 0, 0, 0, 0, 0, 1, 2);
    }

    private static void fault() {
        UncrossedBook x = new UncrossedBook();
        Due.is("15: none yet", x.fault(), -1);
        Books.readText(x, "a+x@1");
        Due.is("15: of the latest", x.fault(), 2);
        x.read(0);
        x.read(9);
        Due.is("15: that came to a row", x.fault(), 2);
        x.image();
        x.restore();
        Due.is("15: no part of the image", x.fault(), 2);
        Books.readText(x, "a+1@1");
        Due.is("15: there was none", x.fault(), -1);
    }

    private static void faultAt(String text, int place) {
        UncrossedBook x = new UncrossedBook();
        Due.is("14: read(" + text + ")", Books.readText(x, text), place < 0 ? 1 : -6);
        Due.is("15: fault of " + text, x.fault(), place);
    }

    private static void faults() {
        faultAt("", 0);
        faultAt("a", 1);
        faultAt("a+", 2);
        faultAt("a+1", 3);
        faultAt("a+1@", 4);
        faultAt("a+1@1;", 6);
        faultAt("a+1@1h", 6);
        faultAt("a+1@1;a", 7);
        faultAt("i+1@1", 0);
        faultAt("A+1@1", 0);
        faultAt("`+1@1", 0);
        faultAt(" a+1@1", 0);
        faultAt("a*1@1", 1);
        faultAt("a,1@1", 1);
        faultAt("a 1@1", 1);
        faultAt("a+ 1@1", 2);
        faultAt("a+@1", 2);
        faultAt("a+1 @1", 3);
        faultAt("a+1A1", 3);
        faultAt("a+1@h1", 4);
        faultAt("a+1@1 ", 5);
        faultAt("a+1@1g", 5);
        faultAt("a+1@1H1", 5);
        faultAt("a+1@1hh", 6);
        faultAt("a+1@1h1h1", 7);
        faultAt("a+1@1;;", 6);
        faultAt("a+1@1h1;i", 8);
        faultAt("a+1@1h1", -1);
        faultAt("a-1@1", -1);
    }

    private static void numbers() {
        faultAt("a+0@1", 2);
        faultAt("a+00@1", 2);
        faultAt("a+000@1", 2);
        faultAt("a+0000@1", 2);
        faultAt("a+0", 2);
        faultAt("a+0x", 2);
        faultAt("a+1@0", 4);
        faultAt("a+1@000", 4);
        faultAt("a+1@1h0", 6);
        faultAt("a+1@1h000;", 6);
        faultAt("a+1@1h0001", 6);
        faultAt("a+1234@1", 5);
        faultAt("a+0011@1", 5);
        faultAt("a+1@1234", 7);
        faultAt("a+1@1h1234", 9);
        faultAt("a+1/@1", 3);
        faultAt("a+1:@1", 3);
        faultAt("a+001@100h009", -1);
    }

    private static void longest() {
        StringBuilder text = new StringBuilder("a+1@1");
        for (int i = 1; i < 26; i++) {
            text.append(";a+1@1");
        }
        UncrossedBook x = new UncrossedBook();
        Due.is("14: 26 items", Books.readText(x, text.toString()), 26);
        Due.is("14: 26 again", Books.readText(x, text.toString()), 26);
        Due.is("14: no room", Books.readText(x, text.toString()), -7);
        text.append(";a+1@");
        Due.is("14: 160 elements", Books.readText(x, text.toString()), -6);
        Due.is("15: ends too early", x.fault(), 160);
        text.setLength(155);
        text.append("h1;a+");
        Due.is("14: 160 elements", Books.readText(x, text.toString()), -6);
        Due.is("15: ends too early", x.fault(), 160);
    }

    private static void otherSorts() {
        UncrossedBook x = new UncrossedBook();
        for (int sort = 1; sort < 4; sort++) {
            Books.write(x, 0, sort, "a+1@1h1");
            Due.is("14: sort " + sort, x.read(0), 1);
        }
        x.set(0, 0, 97L + (1L << 32));
        Due.is("14: a long's lowest 32 bits", x.read(0), 1);
        Books.write(x, 0, 2, "a+1@1");
        x.set(0, 0, 97 + 65536);
        Due.is("14: all 32 of them", x.read(0), -6);
        Due.is("15: all 32", x.fault(), 0);
        Books.write(x, 0, 0, "a+1@1");
        x.set(0, 4, -1);
        Due.is("14: below 0", x.read(0), -6);
        Due.is("15: below 0", x.fault(), 4);
    }
}
