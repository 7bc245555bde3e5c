import java.util.Random;

/** The edges of promises 13 and 14, a sentence of the document at a time: way, shuts. */
public final class EdgesOfWaysTest {
    private static final int LOW = Integer.MIN_VALUE;
    private static final int HIGH = Integer.MAX_VALUE;

    private static final Checks checks = new Checks();

    public static void main(String[] args) {
        wayOutside();
        wayFromACellToItself();
        wayToANeighbour();
        wayOverTheEndOfARow();
        wayFromAndToCellsThatAreNotFree();
        noWayAtAll();
        wayWherePeopleAre();
        wayThereAndBack();
        wayInAFullQuarter();
        shutsInAnEmptyQuarter();
        shutsInAQuarterThatIsShutAlready();
        shutsWithoutFreeCells();
        shutsWithOneLane();
        shutsOneToNineLanes();
        shutsAtTheFirstAndTheLastColumn();
        shutsCountsCellsNotBarricades();
        shutsWhereSomebodyIs();
        shutsAlongALineThatGoesUpAgain();
        shutsOnlyFromSideToSide();
        searchesAgreeWithTheModel();
        searchesChangeNothing();
        checks.end();
    }

    private static void wayOutside() {
        LaneCrowds x = new LaneCrowds();
        x.house(0, 0);
        for (int bad : new int[] {-1, 12, 13, LOW, HIGH}) {
            checks.outside("from x " + bad, x, () -> x.way(bad, 4, 5, 4));
            checks.outside("to x " + bad, x, () -> x.way(5, 4, bad, 4));
            checks.outside("from and to x " + bad, x, () -> x.way(bad, 4, bad, 4));
            checks.outside("from a house to x " + bad, x, () -> x.way(0, 0, bad, 0));
        }
        for (int bad : new int[] {-1, 9, 10, 11, LOW, HIGH}) {
            checks.outside("from y " + bad, x, () -> x.way(5, bad, 5, 4));
            checks.outside("to y " + bad, x, () -> x.way(5, 4, 5, bad));
            checks.outside("from and to y " + bad, x, () -> x.way(5, bad, 5, bad));
            checks.outside("to a house from y " + bad, x, () -> x.way(0, bad, 0, 0));
        }
        checks.same("from corner to corner", x.way(11, 0, 0, 8), 19);
    }

    private static void wayFromACellToItself() {
        LaneCrowds x = new LaneCrowds();
        for (int i = 0; i < 108; i++) {
            checks.same("from " + i + " to itself", x.way(i % 12, i / 12, i % 12, i / 12), 0);
        }
        x.house(5, 5);
        checks.same("from a house to itself", x.way(5, 5, 5, 5), -1);
        x.house(5, 5);
        for (int b = 1; b <= 3; b++) {
            x.block(5, 5, b);
            checks.same("from " + b + " barricades to themselves", x.way(5, 5, 5, 5), -1);
        }
    }

    private static void wayToANeighbour() {
        LaneCrowds x = new LaneCrowds();
        checks.same("up", x.way(5, 5, 5, 4), 1);
        checks.same("right", x.way(5, 5, 6, 5), 1);
        checks.same("down", x.way(5, 5, 5, 6), 1);
        checks.same("left", x.way(5, 5, 4, 5), 1);
        checks.same("to a corner", x.way(5, 5, 6, 6), 2);
    }

    private static void wayOverTheEndOfARow() {
        LaneCrowds x = new LaneCrowds();
        for (int y = 0; y < 8; y++) {
            checks.same("from the end of row " + y + " to the next", x.way(11, y, 0, y + 1), 12);
            checks.same("and back", x.way(0, y + 1, 11, y), 12);
        }
    }

    private static void wayFromAndToCellsThatAreNotFree() {
        for (int there : new int[] {-1, 1, 2, 3}) {
            LaneCrowds x = new LaneCrowds();
            Nights.put(x, 5, 0, there);
            checks.same("from " + there, x.way(5, 0, 6, 0), -1);
            checks.same("to " + there, x.way(6, 0, 5, 0), -1);
            checks.same("past " + there, x.way(4, 0, 6, 0), 4);
            Nights.put(x, 6, 0, there);
            checks.same("from " + there + " to another", x.way(5, 0, 6, 0), -1);
        }
    }

    private static void noWayAtAll() {
        LaneCrowds x = new LaneCrowds();
        x.house(1, 0);
        x.block(0, 1, 1);
        checks.same("out of a corner", x.way(0, 0, 1, 1), -1);
        checks.same("into it", x.way(11, 8, 0, 0), -1);
        checks.same("in it", x.way(0, 0, 0, 0), 0);
        x.block(0, 1, 0);
        checks.same("through a gap", x.way(0, 0, 1, 1), 2);
    }

    private static void wayWherePeopleAre() {
        LaneCrowds x = new LaneCrowds();
        for (int i = 0; i < 6; i++) {
            x.gather(5, i, 9);
        }
        for (int i = 6; i < 9; i++) {
            x.patrol(5, i, 1, 0);
        }
        checks.same("through a column of people", x.way(0, 4, 11, 4), 11);
        checks.same("from a crowd to a patrol", x.way(5, 0, 5, 8), 8);
    }

    private static void wayThereAndBack() {
        LaneCrowds x = maze();
        for (int i = 0; i < 108; i += 5) {
            int to = (i * 7 + 31) % 108;
            int there = x.way(i % 12, i / 12, to % 12, to / 12);
            checks.same("back from " + to + " to " + i, x.way(to % 12, to / 12, i % 12, i / 12), there);
        }
    }

    private static LaneCrowds maze() {
        LaneCrowds x = new LaneCrowds();
        for (int at = 1; at < 12; at += 2) {
            for (int y = 0; y < 8; y++) {
                x.house(at, at % 4 == 1 ? y : y + 1);
            }
        }
        return x;
    }

    private static void wayInAFullQuarter() {
        LaneCrowds x = maze();
        checks.same("all columns up and down", x.way(0, 0, 10, 0), 10 + 5 * 8 + 8);
        checks.same("to the last gap", x.way(0, 0, 11, 0), 59);
        checks.same("shuts()", x.shuts(), 1);
    }

    private static void shutsInAnEmptyQuarter() {
        checks.same("shuts()", new LaneCrowds().shuts(), 9);
    }

    private static void shutsInAQuarterThatIsShutAlready() {
        for (int wall = 0; wall < 12; wall++) {
            LaneCrowds x = new LaneCrowds();
            for (int y = 0; y < 9; y++) {
                x.block(wall, y, 1);
            }
            checks.same("shuts()", x.shuts(), 0);
            x.block(wall, 4, 0);
            checks.same("shuts() with a gap", x.shuts(), 1);
            x.block((wall + 6) % 12, 4, 2);
            checks.same("shuts() with a barricade away from the gap", x.shuts(), 1);
        }
    }

    private static void shutsWithoutFreeCells() {
        LaneCrowds x = new LaneCrowds();
        for (int i = 0; i < 108; i++) {
            x.block(i % 12, i / 12, 1 + i % 3);
        }
        checks.same("shuts()", x.shuts(), 0);
        x.block(0, 4, 0);
        checks.same("one free cell with x 0", x.shuts(), 0);
        x.block(11, 4, 0);
        checks.same("one more with x 11", x.shuts(), 0);
    }

    private static void shutsWithOneLane() {
        for (int y = 0; y < 9; y++) {
            LaneCrowds x = new LaneCrowds();
            for (int i = 0; i < 108; i++) {
                if (i / 12 != y) {
                    x.house(i % 12, i / 12);
                }
            }
            checks.same("one lane in row " + y, x.shuts(), 1);
            x.block(y, y, 1);
            checks.same("shut in row " + y, x.shuts(), 0);
        }
    }

    private static void shutsOneToNineLanes() {
        for (int lanes = 0; lanes <= 9; lanes++) {
            for (int wall = 0; wall < 12; wall++) {
                LaneCrowds x = new LaneCrowds();
                for (int y = lanes; y < 9; y++) {
                    x.house(wall, y);
                }
                checks.same(lanes + " lanes through column " + wall, x.shuts(), lanes);
            }
        }
    }

    private static void shutsAtTheFirstAndTheLastColumn() {
        LaneCrowds x = new LaneCrowds();
        for (int y = 0; y < 9; y++) {
            if (y != 2) {
                x.house(0, y);
            }
            if (y < 3 || y > 4) {
                x.house(11, y);
            }
        }
        checks.same("one cell with x 0 and two with x 11", x.shuts(), 1);
        x.house(0, 3);
        x.house(0, 4);
        checks.same("three cells with x 0 and two with x 11", x.shuts(), 2);
    }

    private static void shutsCountsCellsNotBarricades() {
        for (int b = 1; b <= 3; b++) {
            LaneCrowds x = new LaneCrowds();
            for (int y = 0; y < 5; y++) {
                x.block(6, y, b);
            }
            checks.same("shuts() with " + b + " in each cell", x.shuts(), 4);
        }
    }

    private static void shutsWhereSomebodyIs() {
        LaneCrowds x = new LaneCrowds();
        for (int y = 0; y < 9; y++) {
            if (y < 6) {
                x.gather(6, y, 9);
            } else {
                x.patrol(6, y, 1, 0);
            }
        }
        checks.same("a column of people", x.shuts(), 9);
        for (int i = 0; i < 108; i++) {
            if (i % 12 != 6) {
                x.house(i % 12, i / 12);
            }
        }
        checks.same("houses on both sides", x.shuts(), 0);
    }

    /** Down on the left, up in the middle, and down on the right: a line with two turns. */
    private static void shutsAlongALineThatGoesUpAgain() {
        LaneCrowds x = new LaneCrowds();
        for (int y = 0; y < 8; y++) {
            x.house(3, y);
            x.house(8, y + 1);
        }
        for (int y = 1; y < 8; y++) {
            x.house(5, y);
        }
        x.house(4, 7);
        checks.same("two gaps short of it", x.shuts(), 1);
        x.block(6, 1, 1);
        checks.same("one gap short of it", x.shuts(), 1);
        x.block(7, 1, 1);
        checks.same("a line that goes up again", x.shuts(), 0);
        x.house(5, 1);
        checks.same("its corners hold without its highest cell", x.shuts(), 0);
        x.house(5, 2);
        checks.same("with two gaps above each other", x.shuts(), 1);
        x.house(5, 1);
        checks.same("with a gap in the middle part", x.shuts(), 1);
    }

    /** A wall from left to right shuts nothing between x 0 and x 11. */
    private static void shutsOnlyFromSideToSide() {
        LaneCrowds x = new LaneCrowds();
        for (int at = 0; at < 12; at++) {
            x.house(at, 4);
        }
        checks.same("one wall along the way", x.shuts(), 8);
        for (int at = 0; at < 12; at++) {
            x.block(at, 0, 1);
            x.block(at, 8, 3);
        }
        checks.same("three walls along the way", x.shuts(), 6);
    }

    private static void searchesAgreeWithTheModel() {
        Random random = new Random(19);
        for (int run = 0; run < 3000; run++) {
            LaneCrowds x = new LaneCrowds();
            Model model = new Model();
            int share = run % 100;
            for (int i = 0; i < 108; i++) {
                if (random.nextInt(130) < share) {
                    build(x, model, i, random.nextInt(4));
                }
            }
            checks.same("shuts() of quarter " + run, x.shuts(), model.shuts());
            for (int k = 0; k < 3; k++) {
                int from = random.nextInt(108);
                int to = random.nextInt(108);
                checks.same("way from " + from + " to " + to + " in quarter " + run,
                    x.way(from % 12, from / 12, to % 12, to / 12), model.way(from % 12, from / 12, to % 12, to / 12));
            }
        }
    }

    private static void build(LaneCrowds x, Model model, int place, int what) {
        if (what == 0) {
            x.house(place % 12, place / 12);
            model.house(place % 12, place / 12);
        } else {
            x.block(place % 12, place / 12, what);
            model.block(place % 12, place / 12, what);
        }
    }

    private static void searchesChangeNothing() {
        LaneCrowds x = maze();
        x.gather(0, 0, 9);
        x.patrol(2, 2, 2, 8);
        long before = x.digest();
        for (int i = 0; i < 50; i++) {
            checks.same("shuts() again", x.shuts(), 1);
            checks.same("way again", x.way(0, 0, 11, 0), 59);
        }
        checks.same("digest()", x.digest(), before);
    }
}
