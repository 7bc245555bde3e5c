/** Promises 16 and 17: foresee, advise. */
public final class ForesightTest {
    private static final int LOW = Integer.MIN_VALUE;
    private static final int HIGH = Integer.MAX_VALUE;

    private static final Checks checks = new Checks();

    public static void main(String[] args) {
        foreseen();
        foreseenPatrols();
        foreseenOutside();
        advised();
        advisedToPush();
        advisedInThePlaceOfAllOrders();
        advisedWithOthersOrders();
        advisedOutside();
        checks.end();
    }

    private static LaneCrowds night() {
        LaneCrowds x = new LaneCrowds();
        for (int y = 0; y < 9; y++) {
            if (y != 4 && y != 6) {
                x.house(5, y);
            }
        }
        x.block(4, 4, 2);
        x.gather(3, 4, 9);
        x.gather(4, 6, 4);
        x.patrol(3, 8, 4, 0);
        x.patrol(9, 4, 3, 3 + 12 + 48);
        int[] codes = {1, 8, 1, 4, 6, 3, 0, 2, 9};
        for (int i = 0; i < codes.length; i++) {
            x.order(i % 2, codes[i]);
        }
        x.order(1, 5);
        return x;
    }

    private static void foreseen() {
        for (int steps = 1; steps <= 60; steps++) {
            LaneCrowds x = night();
            long before = x.digest();
            int people = x.foresee(steps, 0);
            int barricades = x.foresee(steps, 1);
            int shuts = x.foresee(steps, 2);
            checks.same("digest() behind foresee", x.digest(), before);
            LaneCrowds same = night();
            int lost = same.pass(steps);
            checks.same("pass(" + steps + ")", x.pass(steps), lost);
            checks.same("digest()", x.digest(), same.digest());
            checks.same("foresee(" + steps + ", 0)", people, x.count(5));
            checks.same("foresee(" + steps + ", 1)", barricades, x.count(2));
            checks.same("foresee(" + steps + ", 2)", shuts, x.shuts());
        }
    }

    /** Steps 3 to 10 of a patrol that goes right, right, down; then what is new is foreseen, too. */
    private static void foreseenPatrols() {
        LaneCrowds x = new LaneCrowds();
        x.patrol(0, 0, 3, 1 + 4 * 1 + 16 * 2);
        x.gather(7, 2, 9);
        x.pass(2);
        int[] people = {9, 9, 9, 8, 7, 6, 6, 5};
        for (int i = 0; i < people.length; i++) {
            checks.same("people behind " + (i + 1), x.foresee(i + 1, 0), people[i]);
        }
        x.gather(0, 8, 2);
        checks.same("a new crowd", x.foresee(1, 0), 11);
        x.patrol(7, 6, 1, 0);
        checks.same("a new patrol", x.foresee(1, 0), 10);
        x.torch(0);
        checks.same("a torch that is out", x.foresee(1, 0), 11);
    }

    private static void foreseenOutside() {
        LaneCrowds x = night();
        for (int steps : new int[] {0, 61, -1, LOW, HIGH}) {
            for (int what : new int[] {0, 2, 3, -1, LOW}) {
                checks.badArgument("foresee(" + steps + ", " + what + ")", x, () -> x.foresee(steps, what));
            }
        }
        for (int what : new int[] {-1, 3, LOW, HIGH}) {
            checks.outside("foresee(1, " + what + ")", x, () -> x.foresee(1, what));
            checks.outside("foresee(60, " + what + ")", x, () -> x.foresee(60, what));
        }
    }

    /** A wall with one gap, next to the crowd in the direction d, that no other order can shut. */
    private static LaneCrowds gap(int d) {
        LaneCrowds x = new LaneCrowds();
        x.gather(5, 4, 3);
        if (d % 2 == 1) {
            for (int y = 0; y < 9; y++) {
                if (y != 4) {
                    x.house(d == 1 ? 6 : 4, y);
                }
            }
            return x;
        }
        int row = d == 0 ? 3 : 5;
        for (int y = 0; y < 9; y++) {
            boolean beyond = d == 0 ? y <= row : y >= row;
            if (beyond) {
                x.house(4, y);
            }
            if (!beyond || y == row) {
                x.house(6, y);
            }
        }
        return x;
    }

    private static void advised() {
        for (int d = 0; d < 4; d++) {
            LaneCrowds x = gap(d);
            checks.same("shuts() with a gap", x.shuts(), 1);
            checks.same("raise in the direction " + d, x.advise(0), 4 + d);
            x.order(0, x.advise(0));
            checks.same("foresee(1, 2)", x.foresee(1, 2), 0);
        }
        LaneCrowds x = new LaneCrowds();
        x.gather(5, 4, 2);
        checks.same("the least of equals", x.advise(0), 0);
        for (int y = 0; y < 9; y++) {
            x.block(6, y, 1);
        }
        checks.same("the least, with a whole wall", x.advise(0), 0);
        x.house(5, 3);
        x.block(6, 4, 0);
        x.block(7, 4, 0);
        checks.same("a crowd of 2 can't shut the gap", x.advise(0), 0);
    }

    /** A barricade that is pushed ahead of a gap shuts it by its corners. */
    private static void advisedToPush() {
        LaneCrowds x = new LaneCrowds();
        for (int y = 0; y < 9; y++) {
            if (y != 4) {
                x.house(7, y);
            }
        }
        x.block(5, 4, 1);
        x.gather(4, 4, 2);
        checks.same("shuts() with the gap", x.shuts(), 1);
        checks.same("push it ahead of the gap", x.advise(0), 1);
    }

    private static void advisedInThePlaceOfAllOrders() {
        LaneCrowds x = new LaneCrowds();
        for (int y = 0; y < 9; y++) {
            if (y != 4) {
                x.house(6, y);
            }
        }
        x.gather(5, 4, 3);
        for (int i = 0; i < 24; i++) {
            x.order(0, 1);
        }
        long before = x.digest();
        checks.same("advise", x.advise(0), 5);
        checks.same("digest() behind advise", x.digest(), before);
        x.pass(1);
        checks.same("its own order", x.crowd(0, 0), 6);
        checks.same("orders", x.crowd(0, 4), 23);
    }

    private static void advisedWithOthersOrders() {
        LaneCrowds x = new LaneCrowds();
        for (int y = 0; y < 9; y++) {
            if (y != 4 && y != 5) {
                x.house(6, y);
            }
        }
        x.gather(5, 4, 3);
        x.gather(5, 5, 3);
        x.order(0, 5);
        checks.same("the other one shuts its lane", x.advise(1), 5);
        checks.same("without regard to its own order", x.advise(0), 5);
        x.order(1, 5);
        checks.same("both", x.foresee(1, 2), 0);
        checks.same("advise", x.advise(1), 5);
        LaneCrowds y = new LaneCrowds();
        for (int row = 0; row < 9; row++) {
            if (row != 4) {
                y.house(6, row);
            }
        }
        y.gather(5, 4, 3);
        y.gather(7, 4, 3);
        y.order(0, 5);
        checks.same("the other one is first, all are equal but its undoing", y.advise(1), 0);
        y.house(6, 4);
        y.house(6, 4);
        y.block(6, 4, 1);
        checks.same("pulling down would be worse", y.advise(0), 0);
    }

    private static void advisedOutside() {
        LaneCrowds x = new LaneCrowds();
        checks.outside("advise without crowds", x, () -> x.advise(0));
        x.gather(0, 0, 1);
        for (int crowd : new int[] {-1, 1, 6, LOW, HIGH}) {
            checks.outside("advise " + crowd, x, () -> x.advise(crowd));
        }
        x.order(0, 3);
        x.order(0, 3);
        x.patrol(0, 0, 1, 0);
        x.pass(1);
        long before = x.digest();
        checks.same("advise for a scattered crowd", x.advise(0), -1);
        checks.same("digest()", x.digest(), before);
    }
}
