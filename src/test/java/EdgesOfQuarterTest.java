/** The edges of promises 1 to 4, a sentence of the document at a time: a new object, house, block, cell. */
public final class EdgesOfQuarterTest {
    private static final int LOW = Integer.MIN_VALUE;
    private static final int HIGH = Integer.MAX_VALUE;
    /** Just outside, far outside, and such as would be a cell again if 12 * y + x were taken unlooked at. */
    private static final int[][] OUTSIDE = {
        {-1, 0}, {-1, 8}, {12, 0}, {12, 7}, {12, 8}, {0, -1}, {11, -1}, {0, 9}, {11, 9}, {-1, -1}, {12, 9}, {-12, 1},
        {24, 0}, {108, -8}, {-1, 9}, {107, 0}, {LOW, 0}, {HIGH, 0}, {0, LOW}, {0, HIGH}, {LOW, LOW}, {HIGH, HIGH},
        {0, 715827883}, {4, 357913941}, {LOW + 12, 4}};

    private static final Checks checks = new Checks();

    public static void main(String[] args) {
        everyCellIsALaneAtFirst();
        nobodyIsThereAtFirst();
        houseInTheCorners();
        houseReturnsWhetherThereIsOneThen();
        houseInAFreeCellOnly();
        aHousePulledDownIsALaneWithoutBarricades();
        houseWhereSomebodyIs();
        houseWhereNobodyIsAnyMore();
        houseOutside();
        everyCellCanBeAHouse();
        blockOfEachNumber();
        blockJustBeyondWhatIsAllowed();
        blockInAHouse();
        blockWhereSomebodyIs();
        blockWhereNobodyIsAnyMore();
        blockOutside();
        cellOutside();
        aCellWithThreeBarricadesAndOneWithNone();
        checks.end();
    }

    private static void everyCellIsALaneAtFirst() {
        LaneCrowds x = new LaneCrowds();
        for (int i = 0; i < 108; i++) {
            checks.same("new cell " + i, x.cell(i % 12, i / 12), 0);
        }
        checks.same("all are free", x.count(3), 108);
    }

    private static void nobodyIsThereAtFirst() {
        LaneCrowds x = new LaneCrowds();
        checks.same("the step", x.count(0), 0);
        checks.same("crowds", x.count(4), 0);
        checks.same("patrols", x.count(6), 0);
        for (int i : new int[] {-1, 0, 1, 5, 6, LOW, HIGH}) {
            checks.outside("crowd " + i, x, () -> x.crowd(i, 0));
            checks.outside("guard " + i, x, () -> x.guard(i, 0));
            checks.outside("order " + i, x, () -> x.order(i, 0));
            checks.outside("torch " + i, x, () -> Checks.number(x.torch(i)));
            checks.outside("advise " + i, x, () -> x.advise(i));
            checks.outside("sees " + i, x, () -> Checks.number(x.sees(i, i)));
        }
    }

    private static void houseInTheCorners() {
        int[][] corners = {{0, 0}, {11, 0}, {0, 8}, {11, 8}};
        for (int[] corner : corners) {
            LaneCrowds x = new LaneCrowds();
            checks.same("house", Checks.number(x.house(corner[0], corner[1])), 1);
            checks.same("cell", x.cell(corner[0], corner[1]), -1);
            checks.same("houses", x.count(1), 1);
        }
    }

    private static void houseReturnsWhetherThereIsOneThen() {
        LaneCrowds x = new LaneCrowds();
        for (int i = 0; i < 10; i++) {
            checks.same("house", Checks.number(x.house(6, 4)), 1 - i % 2);
            checks.same("cell", x.cell(6, 4), i % 2 - 1);
        }
    }

    private static void houseInAFreeCellOnly() {
        LaneCrowds x = new LaneCrowds();
        for (int b = 1; b <= 3; b++) {
            x.block(6, 4, b);
            checks.badState("house on " + b, x, () -> Checks.number(x.house(6, 4)));
            checks.same("cell", x.cell(6, 4), b);
        }
        x.block(6, 4, 0);
        checks.same("house behind the last one", Checks.number(x.house(6, 4)), 1);
    }

    private static void aHousePulledDownIsALaneWithoutBarricades() {
        LaneCrowds x = new LaneCrowds();
        x.block(6, 4, 3);
        x.block(6, 4, 0);
        x.house(6, 4);
        x.house(6, 4);
        checks.same("cell", x.cell(6, 4), 0);
        checks.same("barricades", x.count(2), 0);
        checks.same("free cells", x.count(3), 108);
        checks.same("a crowd can gather there", x.gather(6, 4, 1), 0);
    }

    private static void houseWhereSomebodyIs() {
        LaneCrowds x = new LaneCrowds();
        x.gather(0, 0, 1);
        x.patrol(11, 8, 1, 0);
        checks.badState("house on a crowd", x, () -> Checks.number(x.house(0, 0)));
        checks.badState("house on a patrol", x, () -> Checks.number(x.house(11, 8)));
        for (int i = 1; i < 6; i++) {
            x.gather(i, 0, 1);
        }
        x.patrol(10, 8, 1, 0);
        x.patrol(9, 8, 1, 0);
        for (int i = 0; i < 6; i++) {
            int at = i;
            checks.badState("house on crowd " + i, x, () -> Checks.number(x.house(at, 0)));
        }
        for (int i = 9; i < 12; i++) {
            int at = i;
            checks.badState("house on the patrol at " + i, x, () -> Checks.number(x.house(at, 8)));
        }
        checks.same("house beside six crowds", Checks.number(x.house(6, 0)), 1);
        checks.same("house beside three patrols", Checks.number(x.house(8, 8)), 1);
        checks.same("house below a crowd", Checks.number(x.house(0, 1)), 1);
    }

    private static void houseWhereNobodyIsAnyMore() {
        LaneCrowds x = Nights.scattered(4, 4);
        checks.same("house where a scattered crowd was", Checks.number(x.house(4, 4)), 1);
        LaneCrowds y = new LaneCrowds();
        y.gather(4, 4, 1);
        y.order(0, 1);
        y.patrol(8, 8, 1, 3);
        y.pass(1);
        checks.same("house where a crowd went away", Checks.number(y.house(4, 4)), 1);
        checks.badState("house where it went", y, () -> Checks.number(y.house(5, 4)));
        checks.same("house where a patrol went away", Checks.number(y.house(8, 8)), 1);
        checks.badState("house where it went", y, () -> Checks.number(y.house(7, 8)));
    }

    private static void houseOutside() {
        LaneCrowds x = new LaneCrowds();
        for (int[] at : OUTSIDE) {
            checks.outside("house(" + at[0] + ", " + at[1] + ")", x, () -> Checks.number(x.house(at[0], at[1])));
        }
    }

    private static void everyCellCanBeAHouse() {
        LaneCrowds x = new LaneCrowds();
        for (int i = 0; i < 108; i++) {
            checks.same("house", Checks.number(x.house(i % 12, i / 12)), 1);
            checks.same("houses", x.count(1), i + 1);
        }
        checks.same("no free cell is left", x.count(3), 0);
        checks.same("nothing to shut", x.shuts(), 0);
        checks.same("no way", x.way(0, 0, 0, 0), -1);
        checks.badState("no room for a crowd", x, () -> x.gather(0, 0, 1));
        checks.badState("no room for a patrol", x, () -> x.patrol(11, 8, 1, 0));
    }

    private static void blockOfEachNumber() {
        for (int had = 0; had <= 3; had++) {
            for (int b = 0; b <= 3; b++) {
                LaneCrowds x = new LaneCrowds();
                checks.same("block", x.block(11, 0, had), 0);
                checks.same("block", x.block(11, 0, b), had);
                checks.same("cell", x.cell(11, 0), b);
                checks.same("barricades", x.count(2), b);
                checks.same("free cells", x.count(3), b == 0 ? 108 : 107);
            }
        }
    }

    private static void blockJustBeyondWhatIsAllowed() {
        LaneCrowds x = new LaneCrowds();
        x.block(6, 4, 2);
        for (int b : new int[] {-1, 4, -2, 5, LOW, HIGH, -4, 256}) {
            checks.badArgument("block " + b, x, () -> x.block(6, 4, b));
        }
        checks.same("cell", x.cell(6, 4), 2);
    }

    private static void blockInAHouse() {
        LaneCrowds x = new LaneCrowds();
        x.house(0, 8);
        for (int b = 0; b <= 3; b++) {
            int barricades = b;
            checks.badState("block " + b + " in a house", x, () -> x.block(0, 8, barricades));
        }
        checks.same("cell", x.cell(0, 8), -1);
        x.house(0, 8);
        checks.same("block where it was", x.block(0, 8, 3), 0);
    }

    private static void blockWhereSomebodyIs() {
        LaneCrowds x = new LaneCrowds();
        for (int i = 0; i < 6; i++) {
            x.gather(i, 8, 1);
        }
        for (int i = 9; i < 12; i++) {
            x.patrol(i, 0, 1, 0);
        }
        for (int b = 0; b <= 3; b++) {
            int barricades = b;
            for (int i = 0; i < 6; i++) {
                int at = i;
                checks.badState("block on crowd " + i, x, () -> x.block(at, 8, barricades));
            }
            for (int i = 9; i < 12; i++) {
                int at = i;
                checks.badState("block on the patrol at " + i, x, () -> x.block(at, 0, barricades));
            }
        }
        checks.same("block beside six crowds", x.block(6, 8, 3), 0);
        checks.same("block beside three patrols", x.block(8, 0, 3), 0);
    }

    private static void blockWhereNobodyIsAnyMore() {
        LaneCrowds x = Nights.scattered(4, 4);
        checks.same("block where a scattered crowd was", x.block(4, 4, 3), 0);
        checks.same("cell", x.cell(4, 4), 3);
        LaneCrowds y = new LaneCrowds();
        y.patrol(8, 8, 1, 0);
        y.pass(1);
        checks.same("block where a patrol went away", y.block(8, 8, 1), 0);
        checks.badState("block where it went", y, () -> y.block(8, 7, 1));
    }

    private static void blockOutside() {
        LaneCrowds x = new LaneCrowds();
        for (int[] at : OUTSIDE) {
            for (int b : new int[] {0, 3}) {
                checks.outside("block(" + at[0] + ", " + at[1] + ")", x, () -> x.block(at[0], at[1], b));
            }
        }
    }

    private static void cellOutside() {
        LaneCrowds x = new LaneCrowds();
        x.house(0, 0);
        x.block(11, 8, 3);
        for (int[] at : OUTSIDE) {
            checks.outside("cell(" + at[0] + ", " + at[1] + ")", x, () -> x.cell(at[0], at[1]));
        }
        checks.same("cell(0, 0)", x.cell(0, 0), -1);
        checks.same("cell(11, 8)", x.cell(11, 8), 3);
    }

    private static void aCellWithThreeBarricadesAndOneWithNone() {
        LaneCrowds x = new LaneCrowds();
        for (int i = 0; i < 108; i++) {
            x.block(i % 12, i / 12, 3);
        }
        checks.same("barricades in all", x.count(2), 324);
        checks.same("no cell is free", x.count(3), 0);
        checks.same("shut already", x.shuts(), 0);
        checks.same("block", x.block(3, 3, 0), 3);
        checks.same("one cell is free", x.count(3), 1);
        checks.same("barricades", x.count(2), 321);
        checks.same("way from it to itself", x.way(3, 3, 3, 3), 0);
    }
}
