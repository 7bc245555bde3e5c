/** Promises 12, 18, 19: count, mean, digest. */
public final class TellingTest {
    private static final Checks checks = new Checks();

    public static void main(String[] args) {
        counts();
        countsOfTheFirstCell();
        countsOutside();
        means();
        digestOfANewObject();
        digestOfMore();
        checks.end();
    }

    private static LaneCrowds night() {
        LaneCrowds x = new LaneCrowds();
        x.house(0, 0);
        x.house(11, 8);
        x.block(1, 1, 3);
        x.block(2, 2, 2);
        x.gather(5, 5, 1);
        x.gather(8, 2, 6);
        x.gather(8, 3, 9);
        x.patrol(5, 6, 2, 2 + 4);
        x.patrol(10, 8, 2, 3);
        x.order(0, 3);
        x.order(0, 4);
        x.order(1, 8);
        x.order(2, 1);
        x.order(2, 9);
        x.order(2, 10);
        return x;
    }

    private static void counts() {
        LaneCrowds x = night();
        int[] before = {0, 2, 5, 104, 3, 16, 2, 0};
        int[] behindOne = {1, 2, 5, 104, 3, 16, 2, 1};
        counts(x, before);
        x.pass(1);
        counts(x, behindOne);
        x.block(0, 1, 1);
        x.block(11, 7, 1);
        int[] withTwoMore = {1, 2, 7, 102, 3, 16, 2, 1};
        counts(x, withTwoMore);
        x.pass(2);
        int[] behindThree = {3, 2, 7, 102, 3, 15, 2, 4};
        counts(x, behindThree);
    }

    private static void countsOfTheFirstCell() {
        LaneCrowds x = new LaneCrowds();
        x.block(0, 0, 1);
        counts(x, new int[] {0, 0, 1, 107, 0, 0, 0, 0});
        x.block(0, 0, 0);
        x.house(0, 0);
        counts(x, new int[] {0, 1, 0, 107, 0, 0, 0, 0});
    }

    private static void counts(LaneCrowds x, int[] due) {
        for (int what = 0; what < 8; what++) {
            checks.same("count(" + what + ")", x.count(what), due[what]);
        }
    }

    private static void countsOutside() {
        LaneCrowds x = night();
        for (int what : new int[] {-1, 8, Integer.MIN_VALUE, Integer.MAX_VALUE}) {
            checks.outside("count(" + what + ")", x, () -> x.count(what));
        }
        LaneCrowds y = new LaneCrowds();
        y.gather(0, 0, 1);
        y.gather(5, 5, 4);
        y.order(0, 3);
        y.patrol(0, 0, 1, 0);
        y.pass(1);
        int[] due = {1, 0, 0, 108, 1, 4, 1, 1};
        counts(y, due);
    }

    private static void means() {
        LaneCrowds x = new LaneCrowds();
        checks.sameDouble("mean of none", x.mean(), 0.0);
        x.gather(0, 0, 1);
        checks.sameDouble("mean of one", x.mean(), 1.0);
        x.gather(5, 5, 2);
        checks.sameDouble("mean of two", x.mean(), 1.5);
        x.gather(6, 8, 7);
        checks.sameDouble("mean of three", x.mean(), 10.0 / 3.0);
        x.patrol(0, 0, 1, 0);
        x.pass(1);
        checks.sameDouble("mean without the scattered one", x.mean(), 4.5);
        LaneCrowds y = new LaneCrowds();
        y.gather(0, 0, 1);
        y.patrol(0, 0, 1, 0);
        y.pass(1);
        checks.sameDouble("mean of scattered ones alone", y.mean(), 0.0);
        checks.holds("it is not the negative 0", 1.0 / y.mean() > 0.0);
    }

    private static void digestOfANewObject() {
        long due = 997L;
        int[] counts = {0, 0, 0, 108, 0, 0, 0, 0};
        for (int number : counts) {
            due = due * 31 + number;
        }
        for (int i = 0; i < 108; i++) {
            due = due * 31;
        }
        checks.same("new digest()", new LaneCrowds().digest(), due);
    }

    private static void digestOfMore() {
        LaneCrowds x = night();
        int[][] orders = {{3, 4}, {8}, {1, 9, 10}};
        checks.same("digest()", x.digest(), digest(x, orders));
        int[][] left = {{4}, {}, {9, 10}};
        x.pass(1);
        checks.same("digest() behind a step", x.digest(), digest(x, left));
        checks.same("digest() twice", x.digest(), x.digest());
        LaneCrowds y = new LaneCrowds();
        y.gather(0, 0, 1);
        y.order(0, 3);
        y.order(0, 7);
        y.order(0, 11);
        y.patrol(0, 0, 3, 21);
        y.pass(1);
        checks.same("scattered", y.count(4), 0);
        int[][] kept = {{7, 11}};
        checks.same("digest() with a scattered crowd", y.digest(), digest(y, kept));
    }

    private static long digest(LaneCrowds x, int[][] orders) {
        long d = 997L;
        for (int what = 0; what < 8; what++) {
            d = d * 31 + x.count(what);
        }
        for (int y = 0; y < 9; y++) {
            for (int at = 0; at < 12; at++) {
                d = d * 31 + x.cell(at, y);
            }
        }
        for (int i = 0; i < orders.length; i++) {
            for (int what = 0; what < 8; what++) {
                d = d * 31 + x.crowd(i, what);
            }
            for (int code : orders[i]) {
                d = d * 31 + code;
            }
        }
        for (int i = 0; i < x.count(6); i++) {
            for (int what = 0; what < 4; what++) {
                d = d * 31 + x.guard(i, what);
            }
        }
        return d;
    }
}
