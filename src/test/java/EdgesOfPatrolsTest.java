/** The edges of promises 8, 10 and 11, a sentence of the document at a time: patrol, guard, sees. */
public final class EdgesOfPatrolsTest {
    private static final int LOW = Integer.MIN_VALUE;
    private static final int HIGH = Integer.MAX_VALUE;
    private static final int[] DX = Nights.DX;
    private static final int[] DY = Nights.DY;

    private static final Checks checks = new Checks();

    public static void main(String[] args) {
        patrolInEveryCell();
        patrolOutside();
        patrolOfLengthOneToTwelve();
        patrolOfALengthJustBeyond();
        patrolWithARoundJustBeyond();
        patrolWithLeadingNoughts();
        patrolInAFreeCellOnly();
        patrolWhereOthersAre();
        patrolThreeAndNoFourth();
        patrolsAreNumberedInTheirOrder();
        firstDirectionIsTheLowestDigit();
        roundStartsAgain();
        roundAtTheRim();
        roundAgainstWhatIsNotFree();
        patrolsAndCrowdsDontStopARound();
        guardOfNoSuchNumber();
        guardSeesNoneToSix();
        seesOfNoSuchNumber();
        seesFromEveryCellToEveryCell(true, 4);
        seesFromEveryCellToEveryCell(false, 1);
        seesAtTheLastDistanceAndNotAtTheNext();
        seesThroughFreeCellsAlone();
        seesWhateverStandsBeyond();
        seesWhatIsInItsOwnCell();
        seesNoScatteredCrowd();
        checks.end();
    }

    private static void patrolInEveryCell() {
        for (int i = 0; i < 108; i++) {
            LaneCrowds x = new LaneCrowds();
            checks.same("patrol", x.patrol(i % 12, i / 12, 1, 2), 0);
            checks.same("x", x.guard(0, 0), i % 12);
            checks.same("y", x.guard(0, 1), i / 12);
            checks.same("next direction", x.guard(0, 2), 2);
        }
    }

    private static void patrolOutside() {
        LaneCrowds x = new LaneCrowds();
        for (int bad : new int[] {-1, 12, 13, 107, LOW, HIGH}) {
            checks.outside("patrol x " + bad, x, () -> x.patrol(bad, 0, 1, 0));
            checks.outside("patrol x " + bad, x, () -> x.patrol(bad, 8, 12, 1));
        }
        for (int bad : new int[] {-1, 9, 10, 11, LOW, HIGH}) {
            checks.outside("patrol y " + bad, x, () -> x.patrol(0, bad, 1, 0));
            checks.outside("patrol y " + bad, x, () -> x.patrol(11, bad, 12, 1));
        }
        checks.same("no patrol came of it", x.count(6), 0);
    }

    private static void patrolOfLengthOneToTwelve() {
        int most = 0;
        for (int length = 1; length <= 12; length++) {
            most = most * 4 + 3;
            LaneCrowds x = new LaneCrowds();
            checks.same("round 0", x.patrol(5, 5, length, 0), 0);
            checks.same("round " + most, x.patrol(5, 5, length, most), 1);
            checks.same("next direction", x.guard(0, 2), 0);
            checks.same("next direction", x.guard(1, 2), 3);
        }
        checks.same("the greatest round of all", most, 16777215);
    }

    private static void patrolOfALengthJustBeyond() {
        LaneCrowds x = new LaneCrowds();
        for (int length : new int[] {0, 13, -1, 14, 15, 16, 17, 28, 32, 33, -12, -31, LOW, HIGH}) {
            checks.badArgument("patrol of length " + length, x, () -> x.patrol(5, 5, length, 0));
            checks.badArgument("patrol of length " + length, x, () -> x.patrol(5, 5, length, 1));
        }
        checks.same("the next one is still number 0", x.patrol(5, 5, 1, 0), 0);
    }

    private static void patrolWithARoundJustBeyond() {
        LaneCrowds x = new LaneCrowds();
        int most = 0;
        for (int i = 1; i <= 12; i++) {
            int length = i;
            most = most * 4 + 3;
            for (int round : new int[] {most + 1, -1, LOW, HIGH, (most + 1) * 4}) {
                checks.badArgument("patrol(5, 5, " + i + ", " + round + ")", x, () -> x.patrol(5, 5, length, round));
            }
        }
        checks.same("the next one is still number 0", x.patrol(5, 5, 12, most), 0);
    }

    /** At most so many digits: fewer are good, too, and those that are not written are 0. */
    private static void patrolWithLeadingNoughts() {
        LaneCrowds x = new LaneCrowds();
        checks.same("patrol", x.patrol(5, 5, 3, 1), 0);
        int[] due = {1, 0, 0, 1, 0, 0, 1};
        for (int i = 0; i < due.length; i++) {
            checks.same("next direction", x.guard(0, 2), due[i]);
            x.pass(1);
        }
        checks.same("x", x.guard(0, 0), 8);
        checks.same("y", x.guard(0, 1), 1);
    }

    private static void patrolInAFreeCellOnly() {
        LaneCrowds x = new LaneCrowds();
        x.house(0, 0);
        checks.badState("patrol in a house", x, () -> x.patrol(0, 0, 1, 0));
        x.house(0, 0);
        for (int b = 1; b <= 3; b++) {
            x.block(0, 0, b);
            checks.badState("patrol on " + b, x, () -> x.patrol(0, 0, 1, 0));
        }
        x.block(0, 0, 0);
        checks.same("patrol in the free cell", x.patrol(0, 0, 1, 0), 0);
    }

    private static void patrolWhereOthersAre() {
        LaneCrowds x = new LaneCrowds();
        for (int i = 0; i < 6; i++) {
            x.gather(5, 5, 1);
        }
        for (int i = 0; i < 3; i++) {
            checks.same("patrol", x.patrol(5, 5, 1, 0), i);
        }
        checks.same("a quarter with 6 crowds and 3 patrols", x.count(4) * 10 + x.count(6), 63);
    }

    private static void patrolThreeAndNoFourth() {
        LaneCrowds x = new LaneCrowds();
        for (int i = 0; i < 3; i++) {
            checks.same("patrol", x.patrol(i, i, 1, 0), i);
            checks.same("patrols", x.count(6), i + 1);
        }
        checks.badState("a fourth", x, () -> x.patrol(5, 5, 1, 0));
        checks.badState("a fourth where one is", x, () -> x.patrol(0, 0, 1, 0));
        checks.outside("its number", x, () -> x.guard(3, 0));
    }

    private static void patrolsAreNumberedInTheirOrder() {
        LaneCrowds x = new LaneCrowds();
        x.patrol(9, 1, 1, 3);
        x.patrol(2, 7, 1, 1);
        x.patrol(4, 4, 1, 2);
        int[][] due = {{9, 1, 3}, {2, 7, 1}, {4, 4, 2}};
        for (int i = 0; i < 3; i++) {
            for (int what = 0; what < 3; what++) {
                checks.same("guard(" + i + ", " + what + ")", x.guard(i, what), due[i][what]);
            }
        }
    }

    private static void firstDirectionIsTheLowestDigit() {
        LaneCrowds x = new LaneCrowds();
        x.patrol(5, 5, 4, 2 + 4 * 1 + 16 * 1 + 64 * 3);
        int[] due = {2, 1, 1, 3};
        int[][] places = {{5, 6}, {6, 6}, {7, 6}, {6, 6}};
        for (int i = 0; i < 4; i++) {
            checks.same("next direction", x.guard(0, 2), due[i]);
            x.pass(1);
            checks.same("x", x.guard(0, 0), places[i][0]);
            checks.same("y", x.guard(0, 1), places[i][1]);
        }
        checks.same("and again", x.guard(0, 2), 2);
    }

    private static void roundStartsAgain() {
        int[] directions = {1, 2, 3, 0, 0, 3, 2, 1, 2, 1, 0, 3};
        for (int length = 1; length <= 12; length++) {
            int round = 0;
            for (int i = length - 1; i >= 0; i--) {
                round = round * 4 + directions[i];
            }
            LaneCrowds x = new LaneCrowds();
            x.patrol(5, 5, length, round);
            for (int i = 0; i < 3 * length; i++) {
                checks.same("direction of step " + i, x.guard(0, 2), directions[i % length]);
                x.pass(1);
            }
            checks.same("direction behind three rounds", x.guard(0, 2), directions[0]);
        }
    }

    /** From each cell in each direction; the other digit shows that the direction is done in both cases. */
    private static void roundAtTheRim() {
        for (int i = 0; i < 108; i++) {
            for (int d = 0; d < 4; d++) {
                LaneCrowds x = new LaneCrowds();
                x.patrol(i % 12, i / 12, 2, d + 4 * ((d + 1) % 4));
                x.pass(1);
                checks.same("x of " + i + " in the direction " + d, x.guard(0, 0), Math.max(0, Math.min(11, i % 12 + DX[d])));
                checks.same("y of " + i + " in the direction " + d, x.guard(0, 1), Math.max(0, Math.min(8, i / 12 + DY[d])));
                checks.same("next direction", x.guard(0, 2), (d + 1) % 4);
            }
        }
    }

    private static void roundAgainstWhatIsNotFree() {
        for (int d = 0; d < 4; d++) {
            for (int there = -1; there <= 3; there++) {
                LaneCrowds x = new LaneCrowds();
                x.patrol(5, 4, 2, d + 4 * ((d + 2) % 4));
                Nights.put(x, 5 + DX[d], 4 + DY[d], there);
                x.pass(1);
                int goes = there == 0 ? 1 : 0;
                checks.same("x against " + there, x.guard(0, 0), 5 + goes * DX[d]);
                checks.same("y against " + there, x.guard(0, 1), 4 + goes * DY[d]);
                checks.same("next direction", x.guard(0, 2), (d + 2) % 4);
                checks.same("what is there stays", x.cell(5 + DX[d], 4 + DY[d]), there);
            }
        }
    }

    private static void patrolsAndCrowdsDontStopARound() {
        LaneCrowds x = new LaneCrowds();
        x.patrol(5, 4, 1, 1);
        x.patrol(6, 4, 1, 3);
        x.patrol(7, 4, 1, 3);
        x.gather(6, 4, 9);
        x.gather(5, 4, 9);
        x.pass(1);
        checks.same("patrol 0 goes where one was", x.guard(0, 0), 6);
        checks.same("patrol 1 goes where one was", x.guard(1, 0), 5);
        checks.same("patrol 2 goes where others are", x.guard(2, 0), 6);
    }

    private static void guardOfNoSuchNumber() {
        for (int i = 0; i <= 3; i++) {
            LaneCrowds x = new LaneCrowds();
            for (int k = 0; k < i; k++) {
                x.patrol(k, 0, 1, 0);
            }
            for (int patrol : new int[] {-1, i, 3, LOW, HIGH}) {
                for (int what = 0; what < 4; what++) {
                    int one = what;
                    checks.outside("guard(" + patrol + ", " + what + ")", x, () -> x.guard(patrol, one));
                }
            }
            int last = Math.max(i - 1, 0);
            for (int what : new int[] {-1, 4, 5, 7, LOW, HIGH}) {
                checks.outside("guard(" + last + ", " + what + ")", x, () -> x.guard(last, what));
            }
        }
    }

    private static void guardSeesNoneToSix() {
        LaneCrowds x = new LaneCrowds();
        x.patrol(5, 4, 1, 0);
        for (int i = 0; i < 6; i++) {
            checks.same("crowds that it sees", x.guard(0, 3), i);
            x.gather(i < 4 ? 5 + DX[i] : 5, i < 4 ? 4 + DY[i] : 4, 9);
        }
        checks.same("crowds that it sees", x.guard(0, 3), 6);
        for (int i = 0; i < 6; i++) {
            x.torch(i);
        }
        checks.same("it sees all in the dark, too", x.guard(0, 3), 6);
    }

    private static void seesOfNoSuchNumber() {
        for (int i = 0; i <= 3; i++) {
            LaneCrowds x = new LaneCrowds();
            for (int k = 0; k < i; k++) {
                x.patrol(k, 0, 1, 0);
                x.gather(k, 0, 1);
            }
            int last = Math.max(i - 1, 0);
            for (int bad : new int[] {-1, i, 6, LOW, HIGH}) {
                checks.outside("sees(" + bad + ", " + last + ")", x, () -> Checks.number(x.sees(bad, last)));
                checks.outside("sees(" + last + ", " + bad + ")", x, () -> Checks.number(x.sees(last, bad)));
                checks.outside("sees(" + bad + ", " + bad + ")", x, () -> Checks.number(x.sees(bad, bad)));
            }
        }
        LaneCrowds y = new LaneCrowds();
        y.gather(0, 0, 1);
        checks.outside("a crowd without a patrol", y, () -> Checks.number(y.sees(0, 0)));
        LaneCrowds z = new LaneCrowds();
        z.patrol(0, 0, 1, 0);
        checks.outside("a patrol without a crowd", z, () -> Checks.number(z.sees(0, 0)));
    }

    /** All pairs of cells: the end of a row is no neighbour of the next row's start. */
    private static void seesFromEveryCellToEveryCell(boolean burns, int sight) {
        for (int from = 0; from < 108; from++) {
            for (int to = 0; to < 108; to++) {
                LaneCrowds x = new LaneCrowds();
                x.patrol(from % 12, from / 12, 1, 0);
                x.gather(to % 12, to / 12, 3);
                if (!burns) {
                    x.torch(0);
                }
                int farX = Math.abs(from % 12 - to % 12);
                int farY = Math.abs(from / 12 - to / 12);
                boolean due = (farX == 0 || farY == 0) && farX + farY <= sight;
                checks.same("from " + from + " to " + to + " burning " + burns, Checks.number(x.sees(0, 0)), Checks.number(due));
            }
        }
    }

    private static void seesAtTheLastDistanceAndNotAtTheNext() {
        LaneCrowds x = new LaneCrowds();
        x.patrol(6, 4, 1, 0);
        x.gather(10, 4, 9);
        x.gather(11, 4, 9);
        checks.same("a torch at 4", Checks.number(x.sees(0, 0)), 1);
        checks.same("a torch at 5", Checks.number(x.sees(0, 1)), 0);
        x.gather(5, 4, 9);
        x.gather(4, 4, 9);
        x.torch(2);
        x.torch(3);
        checks.same("none at 1", Checks.number(x.sees(0, 2)), 1);
        checks.same("none at 2", Checks.number(x.sees(0, 3)), 0);
        x.torch(3);
        checks.same("lit at 2", Checks.number(x.sees(0, 3)), 1);
        x.torch(0);
        checks.same("put out at 4", Checks.number(x.sees(0, 0)), 0);
        checks.same("crowds that it sees", x.guard(0, 3), 2);
    }

    private static void seesThroughFreeCellsAlone() {
        for (int d = 0; d < 4; d++) {
            for (int far = 2; far <= 4; far++) {
                for (int k = 1; k < far; k++) {
                    for (int there = -1; there <= 3; there++) {
                        LaneCrowds x = new LaneCrowds();
                        x.patrol(6, 4, 1, 0);
                        x.gather(6 + far * DX[d], 4 + far * DY[d], 9);
                        Nights.put(x, 6 + k * DX[d], 4 + k * DY[d], there);
                        checks.same("sees over " + there, Checks.number(x.sees(0, 0)), there == 0 ? 1 : 0);
                    }
                    LaneCrowds y = new LaneCrowds();
                    y.patrol(6, 4, 1, 0);
                    y.gather(6 + far * DX[d], 4 + far * DY[d], 9);
                    y.gather(6 + k * DX[d], 4 + k * DY[d], 9);
                    y.patrol(6 + k * DX[d], 4 + k * DY[d], 1, 0);
                    checks.same("sees past people", Checks.number(y.sees(0, 0)), 1);
                }
            }
        }
    }

    private static void seesWhateverStandsBeyond() {
        for (int d = 0; d < 4; d++) {
            LaneCrowds x = new LaneCrowds();
            x.patrol(6, 4, 1, 0);
            x.gather(6 + 3 * DX[d], 4 + 3 * DY[d], 9);
            x.house(6 + 4 * DX[d], 4 + 4 * DY[d]);
            x.block(6 - DX[d], 4 - DY[d], 3);
            x.house(6 + DX[d] + DY[d], 4 + DY[d] + DX[d]);
            checks.same("sees", Checks.number(x.sees(0, 0)), 1);
        }
    }

    private static void seesWhatIsInItsOwnCell() {
        LaneCrowds x = new LaneCrowds();
        x.patrol(0, 0, 1, 0);
        x.gather(0, 0, 1);
        x.house(1, 0);
        x.block(0, 1, 1);
        checks.same("burning", Checks.number(x.sees(0, 0)), 1);
        x.torch(0);
        checks.same("in the dark", Checks.number(x.sees(0, 0)), 1);
    }

    private static void seesNoScatteredCrowd() {
        LaneCrowds x = new LaneCrowds();
        x.patrol(5, 5, 2, 1 + 4 * 3);
        x.gather(5, 5, 1);
        x.gather(5, 4, 9);
        x.pass(2);
        checks.same("scattered", x.crowd(0, 2), 0);
        checks.same("the patrol is in its cell", x.guard(0, 0) * 10 + x.guard(0, 1), 55);
        checks.same("sees it", Checks.number(x.sees(0, 0)), 0);
        checks.same("it is seen by", x.crowd(0, 7), 0);
        checks.same("sees the other one", Checks.number(x.sees(0, 1)), 1);
        checks.same("sees", x.guard(0, 3), 1);
    }
}
