import java.lang.management.ManagementFactory;
import java.util.Random;

/** No call throws, whatever its numbers, and none makes objects. */
public final class WildTest {
    private static final int[] WILD = {Integer.MIN_VALUE, Integer.MIN_VALUE + 1, -1000, -2, -1, 0, 1, 2,
        3, 4, 5, 7, 8, 9, 20, 21, 40, 41, 59, 60, 61, 99, 100, 159, 160, 161, 500, 998, 999, 1000, 99999,
        100000, Integer.MAX_VALUE - 1, Integer.MAX_VALUE};

    private final Random random;
    private final UncrossedBook x = new UncrossedBook();

    private WildTest(int run) {
        random = new Random(run);
    }

    public static void main(String[] args) {
        for (int run = 0; run < 600; run++) {
            WildTest test = new WildTest(run);
            int thrown = 0;
            try {
                test.calls(512);
            } catch (RuntimeException e) {
                e.printStackTrace();
                thrown++;
            }
            Due.is("run " + run + ": thrown", thrown, 0);
        }
        objects();
        Due.end();
    }

    private static void objects() {
        WildTest test = new WildTest(1);
        var threads = (com.sun.management.ThreadMXBean) ManagementFactory.getThreadMXBean();
        long self = Thread.currentThread().getId();
        test.calls(512);
        long before = threads.getThreadAllocatedBytes(self);
        test.calls(20000);
        long made = threads.getThreadAllocatedBytes(self) - before;
        Due.is("bytes that 20000 calls made: " + made, made < 100000 ? 1 : 0, 1);
    }

    private void calls(int n) {
        for (int i = 0; i < n; i++) {
            switch (random.nextInt(4)) {
                case 0:
                    orders(random.nextInt(12));
                    break;
                case 1:
                    shelves(random.nextInt(9));
                    break;
                case 2:
                    tells(random.nextInt(11));
                    break;
                default:
                    others(random.nextInt(7));
                    break;
            }
        }
    }

    private int any(int least, int most) {
        return random.nextInt(3) == 0 ? WILD[random.nextInt(WILD.length)]
                : least + random.nextInt(most - least + 1);
    }

    private int less(int least, int most) {
        return random.nextInt(12) == 0 ? any(least, most) : least + random.nextInt(most - least + 1);
    }

    private void orders(int pick) {
        int owner = less(0, 7);
        int side = less(0, 1);
        int quantity = less(1, 999);
        int price = less(1, 999);
        switch (pick) {
            case 0: case 1: case 2:
                x.limit(owner, side, quantity, price, less(0, 2));
                break;
            case 3: case 4:
                x.hidden(owner, side, quantity, price, less(1, 99));
                break;
            case 5:
                x.pegged(owner, side, quantity, less(0, 99));
                break;
            case 6:
                x.halt(owner, side, quantity, price);
                break;
            case 7:
                x.market(owner, side, quantity);
                break;
            case 8: case 9:
                x.amend(any(0, 59), quantity, price);
                break;
            case 10:
                x.cancel(any(0, 59));
                break;
            default:
                x.draws(any(1, 20));
                break;
        }
    }

    private void shelves(int pick) {
        int s = less(0, 7);
        switch (pick) {
            case 0:
                x.row(s, less(0, 3), any(0, 160));
                break;
            case 1: case 2:
                x.set(s, any(0, 12), "a+1@5h;-09b".charAt(random.nextInt(11)));
                break;
            case 3:
                x.copy(s, less(0, 7), any(0, 9), any(0, 9), any(0, 9));
                break;
            case 4:
                x.element(s, any(0, 160));
                break;
            case 5:
                x.show(s, any(-1, 59));
                break;
            case 6:
                x.says(s, any(0, 4));
                break;
            case 7:
                x.read(s);
                break;
            default:
                x.judge(s, any(0, 40));
                break;
        }
    }

    private void tells(int pick) {
        switch (pick) {
            case 0:
                x.orderOf(any(0, 59), any(0, 7));
                break;
            case 1:
                x.rank(any(0, 1), any(0, 59));
                break;
            case 2:
                x.depth(any(0, 1), any(0, 20), any(0, 1));
                break;
            case 3:
                x.ahead(any(0, 59));
                break;
            case 4:
                x.sweep(any(0, 1), any(1, 99999));
                break;
            case 5:
                x.trade(any(0, 200), any(0, 3));
                break;
            case 6:
                x.position(any(0, 7));
                break;
            case 7:
                x.cash(any(0, 7));
                break;
            case 8:
                x.holds(any(0, 7));
                break;
            case 9:
                x.status(any(0, 18));
                break;
            default:
                x.trades();
                x.fault();
                break;
        }
    }

    private void others(int pick) {
        switch (pick) {
            case 0:
                x.rule(any(0, 3));
                break;
            case 1: case 2:
                x.uncross();
                break;
            case 3:
                x.close();
                break;
            case 4:
                x.crossing(any(0, 1));
                break;
            case 5:
                x.seed(any(0, 9));
                x.image();
                break;
            default:
                x.restore();
                break;
        }
    }
}
