/** Promises 8, 10, 11: patrol, guard, sees. */
public final class PatrolsTest {
    private static final int LOW = Integer.MIN_VALUE;
    private static final int HIGH = Integer.MAX_VALUE;

    private static final Checks checks = new Checks();

    public static void main(String[] args) {
        newPatrols();
        patrolsNotPossible();
        roundsOfEveryLength();
        rounds();
        guardNumbers();
        sightByTorch();
        sightInTheDark();
        sightIsBlocked();
        seesOutside();
        checks.end();
    }

    private static void newPatrols() {
        LaneCrowds x = new LaneCrowds();
        x.gather(5, 5, 1);
        checks.same("patrol", x.patrol(5, 5, 1, 3), 0);
        checks.same("patrol", x.patrol(5, 5, 12, 16777215), 1);
        checks.same("patrol", x.patrol(11, 8, 3, 2 + 4 + 48), 2);
        checks.same("count(6)", x.count(6), 3);
        int[][] due = {{5, 5, 3, 1}, {5, 5, 3, 1}, {11, 8, 2, 0}};
        for (int i = 0; i < 3; i++) {
            for (int what = 0; what < 4; what++) {
                checks.same("guard(" + i + ", " + what + ")", x.guard(i, what), due[i][what]);
            }
        }
    }

    private static void patrolsNotPossible() {
        LaneCrowds x = new LaneCrowds();
        x.house(1, 1);
        x.block(2, 2, 1);
        for (int length : new int[] {0, 13, 16, 32, -1, LOW, HIGH}) {
            checks.badArgument("patrol of length " + length, x, () -> x.patrol(0, 0, length, 0));
            checks.badArgument("patrol of length " + length + " in a house", x, () -> x.patrol(1, 1, length, 0));
            checks.outside("patrol of length " + length + " outside", x, () -> x.patrol(0, 9, length, 0));
        }
        for (int round : new int[] {-1, 16, 17, LOW, HIGH}) {
            checks.badArgument("patrol with round " + round, x, () -> x.patrol(0, 0, 2, round));
            checks.badArgument("patrol with round " + round + " on a barricade", x, () -> x.patrol(2, 2, 2, round));
            checks.outside("patrol with round " + round + " outside", x, () -> x.patrol(-1, 0, 2, round));
        }
        checks.badState("patrol in a house", x, () -> x.patrol(1, 1, 1, 0));
        checks.badState("patrol on a barricade", x, () -> x.patrol(2, 2, 1, 0));
        checks.outside("patrol", x, () -> x.patrol(12, 0, 1, 0));
        checks.outside("patrol", x, () -> x.patrol(0, -1, 1, 0));
        for (int i = 0; i < 3; i++) {
            x.patrol(3, 3, 1, 0);
        }
        checks.badState("a fourth patrol", x, () -> x.patrol(3, 3, 1, 0));
        checks.badArgument("a fourth patrol of length 0", x, () -> x.patrol(3, 3, 0, 0));
        checks.outside("a fourth patrol outside", x, () -> x.patrol(3, 9, 1, 0));
    }

    private static void roundsOfEveryLength() {
        for (int length = 1; length <= 12; length++) {
            int most = (1 << 2 * length) - 1;
            int digits = length;
            LaneCrowds x = new LaneCrowds();
            checks.badArgument("round " + (most + 1), x, () -> x.patrol(6, 4, digits, most + 1));
            checks.same("round " + most, x.patrol(6, 4, length, most), 0);
            checks.same("round 0", x.patrol(6, 4, length, 0), 1);
        }
    }

    private static void rounds() {
        int[] directions = {1, 1, 2, 3, 0, 2, 2, 3, 1, 0, 0, 3};
        int[] dx = {0, 1, 0, -1};
        int[] dy = {-1, 0, 1, 0};
        for (int length = 1; length <= 12; length++) {
            int round = 0;
            for (int i = length - 1; i >= 0; i--) {
                round = round * 4 + directions[i];
            }
            LaneCrowds x = new LaneCrowds();
            x.patrol(6, 4, length, round);
            int atX = 6;
            int atY = 4;
            for (int i = 0; i < 30; i++) {
                int d = directions[i % length];
                checks.same("next direction", x.guard(0, 2), d);
                x.pass(1);
                atX = Math.max(0, Math.min(11, atX + dx[d]));
                atY = Math.max(0, Math.min(8, atY + dy[d]));
                checks.same("x of length " + length, x.guard(0, 0), atX);
                checks.same("y of length " + length, x.guard(0, 1), atY);
            }
        }
    }

    private static void guardNumbers() {
        LaneCrowds x = new LaneCrowds();
        checks.outside("guard without patrols", x, () -> x.guard(0, 0));
        x.patrol(4, 4, 1, 2);
        x.gather(4, 0, 9);
        x.gather(4, 8, 9);
        x.gather(5, 5, 9);
        x.gather(4, 4, 9);
        x.gather(9, 4, 9);
        checks.same("crowds that it sees", x.guard(0, 3), 3);
        for (int what : new int[] {-1, 4, LOW, HIGH}) {
            checks.outside("guard(0, " + what + ")", x, () -> x.guard(0, what));
        }
        for (int patrol : new int[] {-1, 1, 3, LOW, HIGH}) {
            checks.outside("guard(" + patrol + ", 0)", x, () -> x.guard(patrol, 0));
        }
    }

    private static void sightByTorch() {
        seesFrom(true, 4);
    }

    private static void sightInTheDark() {
        seesFrom(false, 1);
    }

    private static void seesFrom(boolean burns, int sight) {
        for (int i = 0; i < 108; i++) {
            LaneCrowds x = new LaneCrowds();
            x.patrol(6, 4, 1, 0);
            x.gather(i % 12, i / 12, 3);
            if (!burns) {
                x.torch(0);
            }
            int farX = Math.abs(i % 12 - 6);
            int farY = Math.abs(i / 12 - 4);
            boolean due = (farX == 0 || farY == 0) && farX + farY <= sight;
            checks.same("sees cell " + i + " burning " + burns, Checks.number(x.sees(0, 0)), Checks.number(due));
            checks.same("crowd(0, 7)", x.crowd(0, 7), Checks.number(due));
            checks.same("guard(0, 3)", x.guard(0, 3), Checks.number(due));
        }
    }

    private static void sightIsBlocked() {
        int[] dx = {0, 1, 0, -1};
        int[] dy = {-1, 0, 1, 0};
        for (int d = 0; d < 4; d++) {
            for (int far = 1; far <= 4; far++) {
                for (int block = 1; block < far; block++) {
                    LaneCrowds x = new LaneCrowds();
                    x.patrol(6, 4, 1, 0);
                    x.gather(6 + far * dx[d], 4 + far * dy[d], 3);
                    checks.same("sees", Checks.number(x.sees(0, 0)), 1);
                    x.block(6 + block * dx[d], 4 + block * dy[d], 1);
                    checks.same("sees over a barricade", Checks.number(x.sees(0, 0)), 0);
                    x.block(6 + block * dx[d], 4 + block * dy[d], 0);
                    x.house(6 + block * dx[d], 4 + block * dy[d]);
                    checks.same("sees through a house", Checks.number(x.sees(0, 0)), 0);
                    x.house(6 + block * dx[d], 4 + block * dy[d]);
                    x.gather(6 + block * dx[d], 4 + block * dy[d], 3);
                    checks.same("sees past a crowd", Checks.number(x.sees(0, 0)), 1);
                }
            }
        }
    }

    private static void seesOutside() {
        LaneCrowds x = new LaneCrowds();
        checks.outside("sees(0, 0)", x, () -> Checks.number(x.sees(0, 0)));
        x.patrol(0, 0, 1, 0);
        checks.outside("sees(0, 0)", x, () -> Checks.number(x.sees(0, 0)));
        x.gather(0, 0, 1);
        checks.same("sees(0, 0)", Checks.number(x.sees(0, 0)), 1);
        for (int i : new int[] {-1, 1, 3, 6, LOW, HIGH}) {
            checks.outside("sees(" + i + ", 0)", x, () -> Checks.number(x.sees(i, 0)));
            checks.outside("sees(0, " + i + ")", x, () -> Checks.number(x.sees(0, i)));
        }
    }
}
