/** Promises 1 to 4: a new object, house, block, cell. */
public final class QuarterTest {
    private static final int LOW = Integer.MIN_VALUE;
    private static final int HIGH = Integer.MAX_VALUE;
    private static final int[][] OUTSIDE = {
        {-1, 0}, {12, 0}, {0, -1}, {0, 9}, {LOW, 0}, {HIGH, 0}, {0, LOW}, {0, HIGH}, {-1, 1}, {12, 8}, {11, 9}};

    private static final Checks checks = new Checks();

    public static void main(String[] args) {
        newObject();
        houses();
        housesNotPossible();
        blocks();
        blocksNotPossible();
        placesOutside();
        everyCellIsItsOwn();
        checks.end();
    }

    private static void newObject() {
        LaneCrowds x = new LaneCrowds();
        for (int y = 0; y < 9; y++) {
            for (int at = 0; at < 12; at++) {
                checks.same("new cell", x.cell(at, y), 0);
            }
        }
        int[] due = {0, 0, 0, 108, 0, 0, 0, 0};
        for (int what = 0; what < 8; what++) {
            checks.same("new count(" + what + ")", x.count(what), due[what]);
        }
        checks.same("new shuts()", x.shuts(), 9);
        checks.outside("crowd(0, 0)", x, () -> x.crowd(0, 0));
        checks.outside("guard(0, 0)", x, () -> x.guard(0, 0));
    }

    private static void houses() {
        LaneCrowds x = new LaneCrowds();
        checks.same("house", Checks.number(x.house(11, 8)), 1);
        checks.same("cell of a house", x.cell(11, 8), -1);
        checks.same("count(1)", x.count(1), 1);
        checks.same("house again", Checks.number(x.house(11, 8)), 0);
        checks.same("cell", x.cell(11, 8), 0);
        checks.same("count(1)", x.count(1), 0);
        checks.same("count(3)", x.count(3), 108);
    }

    private static void housesNotPossible() {
        LaneCrowds x = new LaneCrowds();
        for (int b = 1; b <= 3; b++) {
            x.block(3, 3, b);
            checks.badState("house on barricades", x, () -> Checks.number(x.house(3, 3)));
        }
        x.gather(4, 4, 1);
        checks.badState("house on a crowd", x, () -> Checks.number(x.house(4, 4)));
        x.patrol(5, 4, 1, 1);
        checks.badState("house on a patrol", x, () -> Checks.number(x.house(5, 4)));
        x.pass(1);
        checks.same("scattered", x.crowd(0, 2), 0);
        checks.same("house where a scattered crowd was", Checks.number(x.house(4, 4)), 1);
        checks.same("its last cell", x.crowd(0, 0) * 100 + x.crowd(0, 1), 404);
        checks.same("house where a patrol was", Checks.number(x.house(5, 4)), 1);
        checks.badState("house where it is", x, () -> Checks.number(x.house(6, 4)));
    }

    private static void blocks() {
        LaneCrowds x = new LaneCrowds();
        checks.same("block", x.block(0, 8, 3), 0);
        checks.same("cell", x.cell(0, 8), 3);
        checks.same("block", x.block(0, 8, 1), 3);
        checks.same("block", x.block(0, 8, 0), 1);
        checks.same("cell", x.cell(0, 8), 0);
        checks.same("block", x.block(0, 8, 2), 0);
        checks.same("count(2)", x.count(2), 2);
        checks.same("count(3)", x.count(3), 107);
    }

    private static void blocksNotPossible() {
        LaneCrowds x = new LaneCrowds();
        x.house(1, 1);
        x.gather(4, 4, 1);
        x.patrol(5, 4, 1, 1);
        for (int b = 0; b <= 3; b++) {
            int barricades = b;
            checks.badState("block on a house", x, () -> x.block(1, 1, barricades));
            checks.badState("block on a crowd", x, () -> x.block(4, 4, barricades));
            checks.badState("block on a patrol", x, () -> x.block(5, 4, barricades));
        }
        for (int b : new int[] {-1, 4, LOW, HIGH}) {
            checks.badArgument("block " + b, x, () -> x.block(7, 7, b));
            checks.badArgument("block " + b + " on a house", x, () -> x.block(1, 1, b));
            checks.badArgument("block " + b + " on a crowd", x, () -> x.block(4, 4, b));
            checks.outside("block " + b + " outside", x, () -> x.block(12, 7, b));
        }
        x.pass(1);
        checks.same("block where a scattered crowd was", x.block(4, 4, 2), 0);
    }

    private static void placesOutside() {
        LaneCrowds x = new LaneCrowds();
        for (int[] place : OUTSIDE) {
            checks.outside("house", x, () -> Checks.number(x.house(place[0], place[1])));
            checks.outside("block", x, () -> x.block(place[0], place[1], 1));
            checks.outside("cell", x, () -> x.cell(place[0], place[1]));
        }
    }

    private static void everyCellIsItsOwn() {
        LaneCrowds x = new LaneCrowds();
        for (int i = 0; i < 108; i++) {
            if (i % 5 == 4) {
                x.house(i % 12, i / 12);
            } else {
                x.block(i % 12, i / 12, i % 5 % 4);
            }
        }
        for (int i = 0; i < 108; i++) {
            checks.same("cell " + i, x.cell(i % 12, i / 12), i % 5 == 4 ? -1 : i % 5 % 4);
        }
    }
}
