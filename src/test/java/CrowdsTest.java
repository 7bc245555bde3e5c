/** Promises 5, 6, 7, 9: gather, order, torch, crowd. */
public final class CrowdsTest {
    private static final int LOW = Integer.MIN_VALUE;
    private static final int HIGH = Integer.MAX_VALUE;

    private static final Checks checks = new Checks();

    public static void main(String[] args) {
        gathering();
        gatheringNotPossible();
        orders();
        ordersNotPossible();
        torches();
        numbers();
        scatteredCrowd();
        checks.end();
    }

    private static void gathering() {
        LaneCrowds x = new LaneCrowds();
        x.patrol(3, 3, 1, 0);
        for (int i = 0; i < 6; i++) {
            checks.same("gather", x.gather(3, 3, i + 1), i);
        }
        for (int i = 0; i < 6; i++) {
            int[] due = {3, 3, i + 1, 1, 0, -1, 0, 1};
            for (int what = 0; what < 8; what++) {
                checks.same("crowd(" + i + ", " + what + ")", x.crowd(i, what), due[what]);
            }
        }
        checks.same("count(4)", x.count(4), 6);
        checks.same("count(5)", x.count(5), 21);
        LaneCrowds y = new LaneCrowds();
        checks.same("gather at the corner", y.gather(11, 8, 9), 0);
        checks.same("x", y.crowd(0, 0), 11);
        checks.same("y", y.crowd(0, 1), 8);
        checks.same("people", y.crowd(0, 2), 9);
    }

    private static void gatheringNotPossible() {
        LaneCrowds x = new LaneCrowds();
        x.house(1, 0);
        x.block(2, 0, 1);
        x.block(3, 0, 3);
        checks.badState("gather in a house", x, () -> x.gather(1, 0, 1));
        checks.badState("gather on a barricade", x, () -> x.gather(2, 0, 9));
        checks.badState("gather on barricades", x, () -> x.gather(3, 0, 9));
        for (int people : new int[] {0, 10, -1, LOW, HIGH}) {
            checks.badArgument("gather " + people, x, () -> x.gather(0, 0, people));
            checks.badArgument("gather " + people + " in a house", x, () -> x.gather(1, 0, people));
            checks.outside("gather " + people + " outside", x, () -> x.gather(0, 9, people));
        }
        checks.outside("gather", x, () -> x.gather(-1, 0, 1));
        checks.outside("gather", x, () -> x.gather(12, 0, 1));
        checks.outside("gather", x, () -> x.gather(0, -1, 1));
        for (int i = 0; i < 6; i++) {
            x.gather(0, i, 1);
        }
        checks.badState("a seventh crowd", x, () -> x.gather(9, 8, 1));
        checks.badArgument("a seventh crowd of none", x, () -> x.gather(9, 8, 0));
        checks.outside("a seventh crowd outside", x, () -> x.gather(9, 9, 1));
        x.patrol(1, 1, 1, 3);
        x.pass(9);
        checks.holds("some are scattered", x.count(4) < 6);
        checks.badState("scattered crowds count", x, () -> x.gather(9, 8, 1));
    }

    private static void orders() {
        LaneCrowds x = new LaneCrowds();
        x.gather(0, 0, 1);
        x.gather(5, 5, 9);
        for (int i = 0; i < 24; i++) {
            checks.same("order", x.order(0, i % 12), i + 1);
            checks.same("crowd(0, 4)", x.crowd(0, 4), i + 1);
            checks.same("crowd(0, 5)", x.crowd(0, 5), 0);
        }
        checks.same("other crowd's orders", x.crowd(1, 4), 0);
        checks.same("other crowd's first", x.crowd(1, 5), -1);
        for (int i = 1; i < 24; i++) {
            x.pass(1);
            checks.same("orders left", x.crowd(0, 4), 24 - i);
            checks.same("first order", x.crowd(0, 5), i % 12);
        }
        checks.same("order behind the last", x.order(0, 7), 2);
        x.pass(1);
        checks.same("first order", x.crowd(0, 5), 7);
        x.pass(1);
        checks.same("first order", x.crowd(0, 5), -1);
        checks.same("orders", x.crowd(0, 4), 0);
        x.pass(1);
        checks.same("orders", x.crowd(0, 4), 0);
    }

    private static void ordersNotPossible() {
        LaneCrowds x = new LaneCrowds();
        checks.outside("order without crowds", x, () -> x.order(0, 0));
        x.gather(0, 0, 1);
        for (int code : new int[] {-1, 12, LOW, HIGH}) {
            checks.badArgument("order " + code, x, () -> x.order(0, code));
            checks.outside("order " + code + " of no crowd", x, () -> x.order(1, code));
        }
        for (int crowd : new int[] {-1, 1, 6, LOW, HIGH}) {
            checks.outside("order of " + crowd, x, () -> x.order(crowd, 0));
        }
        for (int i = 0; i < 24; i++) {
            x.order(0, 0);
        }
        checks.badState("a 25th order", x, () -> x.order(0, 0));
        checks.badArgument("a 25th order 12", x, () -> x.order(0, 12));
        x.pass(1);
        checks.same("a 24th order", x.order(0, 11), 24);
    }

    private static void torches() {
        LaneCrowds x = new LaneCrowds();
        checks.outside("torch without crowds", x, () -> Checks.number(x.torch(0)));
        x.gather(0, 0, 1);
        x.gather(0, 0, 1);
        checks.same("torch", Checks.number(x.torch(0)), 0);
        checks.same("crowd(0, 3)", x.crowd(0, 3), 0);
        checks.same("crowd(1, 3)", x.crowd(1, 3), 1);
        checks.same("torch", Checks.number(x.torch(0)), 1);
        checks.same("crowd(0, 3)", x.crowd(0, 3), 1);
        for (int crowd : new int[] {-1, 2, 6, LOW, HIGH}) {
            checks.outside("torch of " + crowd, x, () -> Checks.number(x.torch(crowd)));
        }
    }

    private static void numbers() {
        LaneCrowds x = new LaneCrowds();
        checks.outside("crowd without crowds", x, () -> x.crowd(0, 0));
        x.gather(7, 3, 5);
        x.patrol(7, 3, 1, 0);
        x.patrol(7, 5, 1, 0);
        x.patrol(3, 3, 1, 0);
        checks.same("patrols that see it", x.crowd(0, 7), 3);
        x.torch(0);
        checks.same("patrols that see it in the dark", x.crowd(0, 7), 1);
        x.order(0, 11);
        x.order(0, 2);
        checks.same("first order", x.crowd(0, 5), 11);
        x.pass(1);
        checks.same("missed", x.crowd(0, 6), 1);
        x.pass(1);
        checks.same("missed", x.crowd(0, 6), 1);
        checks.same("y", x.crowd(0, 1), 4);
        for (int what : new int[] {-1, 8, LOW, HIGH}) {
            checks.outside("crowd(0, " + what + ")", x, () -> x.crowd(0, what));
        }
        for (int crowd : new int[] {-1, 1, 6, LOW, HIGH}) {
            checks.outside("crowd(" + crowd + ", 0)", x, () -> x.crowd(crowd, 0));
        }
    }

    private static void scatteredCrowd() {
        LaneCrowds x = new LaneCrowds();
        x.gather(2, 0, 1);
        x.order(0, 3);
        x.order(0, 9);
        x.order(0, 10);
        x.patrol(1, 0, 1, 0);
        checks.same("lost", x.pass(1), 1);
        int[] due = {1, 0, 0, 1, 2, 9, 0, 0};
        for (int pass = 0; pass < 3; pass++) {
            for (int what = 0; what < 8; what++) {
                checks.same("scattered crowd(0, " + what + ")", x.crowd(0, what), due[what]);
            }
            x.pass(1);
        }
        checks.badState("order of a scattered crowd", x, () -> x.order(0, 0));
        checks.badArgument("order 12 of a scattered crowd", x, () -> x.order(0, 12));
        checks.badState("torch of a scattered crowd", x, () -> Checks.number(x.torch(0)));
        checks.same("sees it", Checks.number(x.sees(0, 0)), 0);
        checks.same("sees any", x.guard(0, 3), 0);
        checks.same("a new crowd's number", x.gather(1, 0, 2), 1);
        checks.same("sees the new one", Checks.number(x.sees(0, 1)), 1);
    }
}
