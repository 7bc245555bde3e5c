/** The edges of what the terms say of orders, a condition at a time: go, raise, pull down, missed. */
public final class EdgesOfOrdersTest {
    private static final int[] DX = Nights.DX;
    private static final int[] DY = Nights.DY;
    private static final int GO = 0;
    private static final int RAISE = 4;
    private static final int PULL = 8;

    private static final Checks checks = new Checks();

    public static void main(String[] args) {
        everyOrderFromEveryCell();
        pushFromEveryCell();
        goWhereSomebodyIs();
        goIntoAHouse();
        pushWithJustEnoughPeople();
        pushWithOneFewer();
        pushOntoAsManyAsFit();
        pushOntoOneMoreThanFit();
        pushAgainstAHouse();
        pushAgainstSomebody();
        pushOntoAScatteredCrowd();
        pushOneCellFartherOnly();
        pushSeesToTheCellBehindAlone();
        raiseWithThreePeople();
        raiseWithTwoPeople();
        raiseUpToThree();
        raiseInAHouse();
        raiseOnSomebody();
        raiseOnAScatteredCrowd();
        pullDownUpToNone();
        pullDownWithOnePerson();
        pullDownAHouse();
        pullDownWhereSomebodyIs();
        noOrderIsNotMissed();
        oneOrderAStep();
        scatteredCrowdsMissNothing();
        sixCrowdsInAFullQuarter();
        checks.end();
    }

    private static boolean inside(int x, int y) {
        return x >= 0 && x <= 11 && y >= 0 && y <= 8;
    }

    /** With lanes alone all goes and all raises are done but those outside; no pull can be. */
    private static void everyOrderFromEveryCell() {
        for (int i = 0; i < 108; i++) {
            for (int code = 0; code < 12; code++) {
                int atX = i % 12;
                int atY = i / 12;
                int toX = atX + DX[code % 4];
                int toY = atY + DY[code % 4];
                boolean done = code < PULL && inside(toX, toY);
                LaneCrowds x = new LaneCrowds();
                x.gather(atX, atY, 9);
                x.order(0, code);
                x.pass(1);
                String call = "order " + code + " in cell " + i;
                boolean goes = done && code < RAISE;
                checks.same(call + ": x", x.crowd(0, 0), goes ? toX : atX);
                checks.same(call + ": y", x.crowd(0, 1), goes ? toY : atY);
                checks.same(call + ": missed", x.crowd(0, 6), done ? 0 : 1);
                checks.same(call + ": barricades", x.count(2), done && !goes ? 1 : 0);
                if (done && !goes) {
                    checks.same(call + ": raised there", x.cell(toX, toY), 1);
                }
            }
        }
    }

    private static void pushFromEveryCell() {
        for (int i = 0; i < 108; i++) {
            for (int d = 0; d < 4; d++) {
                int nextX = i % 12 + DX[d];
                int nextY = i / 12 + DY[d];
                if (!inside(nextX, nextY)) {
                    continue;
                }
                LaneCrowds x = new LaneCrowds();
                x.block(nextX, nextY, 3);
                x.gather(i % 12, i / 12, 6);
                x.order(0, d);
                x.pass(1);
                boolean done = inside(nextX + DX[d], nextY + DY[d]);
                checks.same("missed from " + i + " in the direction " + d, x.crowd(0, 6), done ? 0 : 1);
                checks.same("neighbour", x.cell(nextX, nextY), done ? 0 : 3);
                checks.same("x", x.crowd(0, 0), done ? nextX : i % 12);
                checks.same("y", x.crowd(0, 1), done ? nextY : i / 12);
                checks.same("barricades stay as many", x.count(2), 3);
                if (done) {
                    checks.same("behind it", x.cell(nextX + DX[d], nextY + DY[d]), 3);
                }
            }
        }
    }

    /** A crowd in (5, 4) with its order towards d, beside a cell and another one behind that. */
    private static LaneCrowds beside(int people, int code, int there, int behind) {
        int d = code % 4;
        LaneCrowds x = new LaneCrowds();
        x.gather(5, 4, people);
        x.order(0, code);
        Nights.put(x, 5 + DX[d], 4 + DY[d], there);
        Nights.put(x, 5 + 2 * DX[d], 4 + 2 * DY[d], behind);
        return x;
    }

    private static void done(LaneCrowds x, int code, int there, int behind) {
        outcome(x, code, there, behind, 0);
    }

    private static void missed(LaneCrowds x, int code, int there, int behind) {
        outcome(x, code, there, behind, 1);
    }

    /** Lets the step go by; crowd 0 goes if, and only if, it is a go that isn't missed. */
    private static void outcome(LaneCrowds x, int code, int there, int behind, int missed) {
        int d = code % 4;
        int goes = code < RAISE && missed == 0 ? 1 : 0;
        x.pass(1);
        checks.same("order " + code + ": missed", x.crowd(0, 6), missed);
        checks.same("order " + code + ": x", x.crowd(0, 0), 5 + goes * DX[d]);
        checks.same("order " + code + ": y", x.crowd(0, 1), 4 + goes * DY[d]);
        checks.same("order " + code + ": the cell meant", x.cell(5 + DX[d], 4 + DY[d]), there);
        checks.same("order " + code + ": the cell behind", x.cell(5 + 2 * DX[d], 4 + 2 * DY[d]), behind);
        checks.same("order " + code + ": it is gone", x.crowd(0, 4), 0);
    }

    private static void goWhereSomebodyIs() {
        for (int d = 0; d < 4; d++) {
            LaneCrowds x = beside(1, GO + d, 0, 0);
            x.gather(5 + DX[d], 4 + DY[d], 9);
            done(x, GO + d, 0, 0);
            LaneCrowds y = beside(9, GO + d, 0, 0);
            y.patrol(5 + DX[d], 4 + DY[d], 1, d);
            done(y, GO + d, 0, 0);
            LaneCrowds z = beside(1, GO + d, 0, -1);
            done(z, GO + d, 0, -1);
        }
    }

    private static void goIntoAHouse() {
        for (int d = 0; d < 4; d++) {
            missed(beside(9, GO + d, -1, 0), GO + d, -1, 0);
        }
    }

    private static void pushWithJustEnoughPeople() {
        for (int d = 0; d < 4; d++) {
            for (int b = 1; b <= 3; b++) {
                done(beside(2 * b, GO + d, b, 0), GO + d, 0, b);
            }
        }
    }

    private static void pushWithOneFewer() {
        for (int d = 0; d < 4; d++) {
            for (int b = 1; b <= 3; b++) {
                missed(beside(2 * b - 1, GO + d, b, 0), GO + d, b, 0);
            }
        }
    }

    private static void pushOntoAsManyAsFit() {
        for (int d = 0; d < 4; d++) {
            for (int b = 1; b <= 3; b++) {
                done(beside(9, GO + d, b, 3 - b), GO + d, 0, 3);
            }
        }
    }

    private static void pushOntoOneMoreThanFit() {
        for (int d = 0; d < 4; d++) {
            for (int b = 1; b <= 3; b++) {
                missed(beside(9, GO + d, b, 4 - b), GO + d, b, 4 - b);
            }
        }
    }

    private static void pushAgainstAHouse() {
        for (int d = 0; d < 4; d++) {
            for (int b = 1; b <= 3; b++) {
                missed(beside(9, GO + d, b, -1), GO + d, b, -1);
            }
        }
    }

    private static void pushAgainstSomebody() {
        for (int d = 0; d < 4; d++) {
            LaneCrowds x = beside(9, GO + d, 1, 0);
            x.gather(5 + 2 * DX[d], 4 + 2 * DY[d], 1);
            missed(x, GO + d, 1, 0);
            LaneCrowds y = beside(9, GO + d, 1, 0);
            y.patrol(5 + 2 * DX[d], 4 + 2 * DY[d], 1, d);
            missed(y, GO + d, 1, 0);
        }
    }

    private static void pushOntoAScatteredCrowd() {
        LaneCrowds x = Nights.scattered(7, 4);
        x.block(6, 4, 2);
        x.gather(5, 4, 9);
        x.order(1, GO + 1);
        x.pass(1);
        checks.same("pushed there", x.cell(7, 4), 2);
        checks.same("not missed", x.crowd(1, 6), 0);
        checks.same("its last cell stays", x.crowd(0, 0) * 10 + x.crowd(0, 1), 74);
    }

    private static void pushOneCellFartherOnly() {
        LaneCrowds x = new LaneCrowds();
        x.gather(5, 4, 9);
        x.block(6, 4, 1);
        for (int i = 0; i < 6; i++) {
            x.order(0, GO + 1);
        }
        for (int i = 0; i < 4; i++) {
            x.pass(1);
            checks.same("the crowd", x.crowd(0, 0), 6 + i);
            checks.same("what it pushes", x.cell(7 + i, 4), 1);
            checks.same("barricades", x.count(2), 1);
        }
        x.pass(2);
        checks.same("the crowd, one cell before the rim", x.crowd(0, 0), 10);
        checks.same("the barricade at the rim", x.cell(11, 4), 1);
        checks.same("missed", x.crowd(0, 6), 1);
    }

    private static void pushSeesToTheCellBehindAlone() {
        LaneCrowds x = beside(9, GO + 1, 1, 0);
        x.gather(5, 4, 9);
        x.gather(8, 4, 9);
        x.house(9, 4);
        x.house(7, 3);
        x.block(7, 5, 3);
        done(x, GO + 1, 0, 1);
        checks.same("who was in the same cell stays", x.crowd(1, 0), 5);
    }

    private static void raiseWithThreePeople() {
        for (int d = 0; d < 4; d++) {
            done(beside(3, RAISE + d, 0, 0), RAISE + d, 1, 0);
        }
    }

    private static void raiseWithTwoPeople() {
        for (int d = 0; d < 4; d++) {
            missed(beside(2, RAISE + d, 0, 0), RAISE + d, 0, 0);
            missed(beside(1, RAISE + d, 2, 0), RAISE + d, 2, 0);
        }
    }

    private static void raiseUpToThree() {
        for (int d = 0; d < 4; d++) {
            for (int b = 0; b <= 2; b++) {
                done(beside(9, RAISE + d, b, -1), RAISE + d, b + 1, -1);
            }
            missed(beside(9, RAISE + d, 3, 0), RAISE + d, 3, 0);
        }
    }

    private static void raiseInAHouse() {
        for (int d = 0; d < 4; d++) {
            missed(beside(9, RAISE + d, -1, 0), RAISE + d, -1, 0);
        }
    }

    private static void raiseOnSomebody() {
        for (int d = 0; d < 4; d++) {
            LaneCrowds x = beside(9, RAISE + d, 0, 0);
            x.gather(5 + DX[d], 4 + DY[d], 1);
            missed(x, RAISE + d, 0, 0);
            LaneCrowds y = beside(9, RAISE + d, 0, 0);
            y.patrol(5 + DX[d], 4 + DY[d], 1, d);
            missed(y, RAISE + d, 0, 0);
            LaneCrowds z = beside(9, RAISE + d, 0, 0);
            z.gather(5, 4, 9);
            z.gather(5 + 2 * DX[d], 4 + 2 * DY[d], 9);
            done(z, RAISE + d, 1, 0);
        }
    }

    private static void raiseOnAScatteredCrowd() {
        LaneCrowds x = Nights.scattered(6, 4);
        x.gather(5, 4, 3);
        x.order(1, RAISE + 1);
        x.torch(1);
        x.pass(1);
        checks.same("raised there", x.cell(6, 4), 1);
        checks.same("not missed", x.crowd(1, 6), 0);
    }

    private static void pullDownUpToNone() {
        for (int d = 0; d < 4; d++) {
            for (int b = 1; b <= 3; b++) {
                done(beside(9, PULL + d, b, -1), PULL + d, b - 1, -1);
            }
            missed(beside(9, PULL + d, 0, 3), PULL + d, 0, 3);
        }
    }

    private static void pullDownWithOnePerson() {
        for (int d = 0; d < 4; d++) {
            done(beside(1, PULL + d, 3, 3), PULL + d, 2, 3);
            LaneCrowds x = beside(1, PULL + d, 1, 0);
            done(x, PULL + d, 0, 0);
            checks.same("the cell is free then", x.count(3), 108);
        }
    }

    private static void pullDownAHouse() {
        for (int d = 0; d < 4; d++) {
            missed(beside(9, PULL + d, -1, 0), PULL + d, -1, 0);
        }
    }

    private static void pullDownWhereSomebodyIs() {
        LaneCrowds x = beside(9, PULL + 1, 0, 0);
        x.gather(6, 4, 9);
        missed(x, PULL + 1, 0, 0);
    }

    private static void noOrderIsNotMissed() {
        LaneCrowds x = new LaneCrowds();
        x.gather(0, 0, 9);
        x.pass(60);
        checks.same("missed", x.crowd(0, 6), 0);
        checks.same("missed in all", x.count(7), 0);
    }

    private static void oneOrderAStep() {
        LaneCrowds x = new LaneCrowds();
        x.gather(0, 0, 9);
        for (int i = 0; i < 24; i++) {
            x.order(0, i < 11 ? 1 : i < 19 ? 2 : 3);
        }
        for (int i = 1; i <= 24; i++) {
            x.pass(1);
            checks.same("x in step " + i, x.crowd(0, 0), i <= 11 ? i : i <= 19 ? 11 : 11 + 19 - i);
            checks.same("y in step " + i, x.crowd(0, 1), Math.max(0, Math.min(i - 11, 8)));
            checks.same("orders", x.crowd(0, 4), 24 - i);
        }
        checks.same("missed", x.crowd(0, 6), 0);
    }

    private static void scatteredCrowdsMissNothing() {
        LaneCrowds x = new LaneCrowds();
        x.gather(0, 0, 1);
        for (int i = 0; i < 24; i++) {
            x.order(0, 0);
        }
        x.patrol(0, 0, 1, 0);
        x.pass(60);
        checks.same("missed in the first step alone", x.crowd(0, 6), 1);
        checks.same("orders", x.crowd(0, 4), 23);
        checks.same("missed in all", x.count(7), 1);
    }

    /** Each of all 6 crowds and 3 patrols is somebody for raising and for pushing. */
    private static void sixCrowdsInAFullQuarter() {
        for (int d = 0; d < 4; d++) {
            for (int who = 1; who < 9; who++) {
                LaneCrowds raises = beside(9, RAISE + d, 0, 0);
                fill(raises, who, 5 + DX[d], 4 + DY[d], d);
                missed(raises, RAISE + d, 0, 0);
                LaneCrowds pushes = beside(9, GO + d, 1, 0);
                fill(pushes, who, 5 + 2 * DX[d], 4 + 2 * DY[d], d);
                missed(pushes, GO + d, 1, 0);
            }
            LaneCrowds nobody = beside(9, RAISE + d, 0, 0);
            fill(nobody, 9, 0, 0, d);
            done(nobody, RAISE + d, 1, 0);
        }
    }

    /** Crowds 1 to 5, and as 6 to 8 the patrols; the one that is told goes to the place, the others are away. */
    private static void fill(LaneCrowds x, int who, int placeX, int placeY, int d) {
        for (int i = 1; i < 6; i++) {
            x.gather(i == who ? placeX : 11, i == who ? placeY : 8, 9);
        }
        for (int i = 6; i < 9; i++) {
            x.patrol(i == who ? placeX : 0, i == who ? placeY : 8, 1, d);
        }
    }
}
