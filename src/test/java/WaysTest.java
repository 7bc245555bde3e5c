/** Promises 13 and 14: way, shuts. */
public final class WaysTest {
    private static final int LOW = Integer.MIN_VALUE;
    private static final int HIGH = Integer.MAX_VALUE;

    private static final Checks checks = new Checks();

    public static void main(String[] args) {
        waysWithoutWalls();
        waysToCellsThatAreNotFree();
        wayRoundWalls();
        longestWay();
        waysOutside();
        shutsWithWalls();
        shutsAtTheEdges();
        shutsByCorners();
        somebodyIsInTheCell();
        checks.end();
    }

    private static void waysWithoutWalls() {
        LaneCrowds x = new LaneCrowds();
        for (int from = 0; from < 108; from += 7) {
            for (int to = 0; to < 108; to++) {
                int due = Math.abs(from % 12 - to % 12) + Math.abs(from / 12 - to / 12);
                checks.same("way", x.way(from % 12, from / 12, to % 12, to / 12), due);
            }
        }
    }

    private static void waysToCellsThatAreNotFree() {
        LaneCrowds x = new LaneCrowds();
        x.house(1, 1);
        x.block(3, 1, 1);
        x.gather(5, 1, 1);
        x.patrol(5, 2, 1, 0);
        checks.same("way to a house", x.way(0, 0, 1, 1), -1);
        checks.same("way from a house", x.way(1, 1, 0, 0), -1);
        checks.same("way from a house to itself", x.way(1, 1, 1, 1), -1);
        checks.same("way from a house to a barricade", x.way(1, 1, 3, 1), -1);
        checks.same("way to a barricade", x.way(0, 0, 3, 1), -1);
        checks.same("way from a barricade", x.way(3, 1, 0, 0), -1);
        checks.same("way from a barricade to itself", x.way(3, 1, 3, 1), -1);
        checks.same("way through people", x.way(5, 0, 5, 3), 3);
        checks.same("way to itself", x.way(5, 1, 5, 1), 0);
        checks.same("way round both", x.way(0, 1, 4, 1), 6);
    }

    private static void wayRoundWalls() {
        LaneCrowds x = new LaneCrowds();
        for (int y = 0; y < 8; y++) {
            x.house(3, y);
            x.block(7, 8 - y, 1 + y % 3);
        }
        checks.same("way round two walls", x.way(0, 0, 11, 8), 11 + 8 + 8 + 8);
        checks.same("and back", x.way(11, 8, 0, 0), 11 + 8 + 8 + 8);
        x.house(3, 8);
        checks.same("no way", x.way(0, 0, 11, 8), -1);
        checks.same("a way on one side", x.way(0, 0, 2, 8), 10);
        checks.same("no way by corners", cornersAlone().way(0, 0, 1, 1), -1);
    }

    private static LaneCrowds cornersAlone() {
        LaneCrowds x = new LaneCrowds();
        x.house(1, 0);
        x.house(0, 1);
        return x;
    }

    /** Rows of houses with a gap at either end in turn make the way as long as it can be here. */
    private static void longestWay() {
        LaneCrowds x = new LaneCrowds();
        for (int y = 1; y < 9; y += 2) {
            for (int at = 0; at < 12; at++) {
                if (at != (y % 4 == 1 ? 11 : 0)) {
                    x.house(at, y);
                }
            }
        }
        checks.same("longest way", x.way(0, 0, 11, 8), 5 * 11 + 8);
        checks.same("shuts() in five rows", x.shuts(), 5);
    }

    private static void waysOutside() {
        LaneCrowds x = new LaneCrowds();
        x.house(5, 5);
        for (int bad : new int[] {-1, 12, LOW, HIGH}) {
            checks.outside("way from x " + bad, x, () -> x.way(bad, 0, 0, 0));
            checks.outside("way to x " + bad, x, () -> x.way(0, 0, bad, 0));
            checks.outside("way from a house to x " + bad, x, () -> x.way(5, 5, bad, 0));
        }
        for (int bad : new int[] {-1, 9, 11, LOW, HIGH}) {
            checks.outside("way from y " + bad, x, () -> x.way(0, bad, 0, 0));
            checks.outside("way to y " + bad, x, () -> x.way(0, 0, 0, bad));
        }
    }

    private static void shutsWithWalls() {
        for (int wall = 0; wall < 12; wall++) {
            LaneCrowds x = new LaneCrowds();
            for (int y = 0; y < 9; y++) {
                checks.same("shuts()", x.shuts(), 9 - y);
                if (y % 2 == 0) {
                    x.house(wall, (y * 4 + 2) % 9);
                } else {
                    x.block(wall, (y * 4 + 2) % 9, 1 + y % 3);
                }
            }
            checks.same("shuts() with a whole wall", x.shuts(), 0);
            checks.same("shuts() changes nothing", x.count(1) + x.count(3), 104);
        }
    }

    private static void shutsAtTheEdges() {
        LaneCrowds x = new LaneCrowds();
        for (int y = 0; y < 9; y++) {
            x.house(0, y);
        }
        checks.same("no free cell with x 0", x.shuts(), 0);
        x.house(0, 4);
        checks.same("one free cell with x 0", x.shuts(), 1);
        for (int y = 0; y < 9; y++) {
            x.block(11, y, 1);
        }
        checks.same("no free cell with x 11", x.shuts(), 0);
        x.block(11, 0, 0);
        x.house(0, 5);
        checks.same("one free cell with x 11", x.shuts(), 1);
        LaneCrowds rows = new LaneCrowds();
        for (int at = 0; at < 12; at++) {
            rows.house(at, 2);
            rows.house(at, 6);
        }
        checks.same("houses along the way shut nothing but their rows", rows.shuts(), 7);
    }

    private static void shutsByCorners() {
        LaneCrowds x = new LaneCrowds();
        for (int y = 0; y < 9; y++) {
            x.house(y + 1, y);
        }
        checks.same("a wall of corners", x.shuts(), 0);
        x.house(5, 4);
        checks.same("with a gap", x.shuts(), 1);
        x.house(5, 4);
        LaneCrowds zigzag = new LaneCrowds();
        for (int y = 0; y < 9; y++) {
            zigzag.block(4 + y % 2, y, 1);
        }
        checks.same("a wall that goes to and fro", zigzag.shuts(), 0);
        LaneCrowds back = new LaneCrowds();
        int[][] wall = {{6, 0}, {6, 1}, {7, 2}, {8, 3}, {9, 2}, {10, 3}, {10, 4}, {9, 5}, {8, 5}, {7, 5}, {6, 6}, {6, 7}, {6, 8}};
        for (int[] place : wall) {
            back.house(place[0], place[1]);
        }
        checks.same("a wall that goes round", back.shuts(), 0);
        back.house(9, 2);
        checks.same("a gap in it", back.shuts(), 1);
        checks.holds("a way through the gap", back.way(0, 0, 11, 0) > 0);
    }

    private static void somebodyIsInTheCell() {
        LaneCrowds x = new LaneCrowds();
        for (int y = 0; y < 8; y++) {
            x.house(6, y);
        }
        x.gather(6, 8, 9);
        x.patrol(6, 8, 1, 2);
        checks.same("also where somebody is", x.shuts(), 1);
    }
}
