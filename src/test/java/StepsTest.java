/** Promise 15 and the terms of a step: pass, orders, patrols, scattering. */
public final class StepsTest {
    private static final int LOW = Integer.MIN_VALUE;
    private static final int HIGH = Integer.MAX_VALUE;
    private static final int[] DX = {0, 1, 0, -1};
    private static final int[] DY = {-1, 0, 1, 0};

    private static final Checks checks = new Checks();

    public static void main(String[] args) {
        howManySteps();
        goingFree();
        pushing();
        pushingWithPatrolBehind();
        raising();
        pullingDown();
        ordersAtTheEdge();
        scatteredCrowdsAreNowhere();
        crowdsInTheirOrder();
        patrolsMoveBehindOrders();
        peopleLost();
        checks.end();
    }

    private static void howManySteps() {
        LaneCrowds x = new LaneCrowds();
        for (int steps : new int[] {0, -1, 61, LOW, HIGH}) {
            checks.badArgument("pass " + steps, x, () -> x.pass(steps));
        }
        checks.same("pass 60", x.pass(60), 0);
        checks.same("step", x.count(0), 60);
        checks.same("pass 1", x.pass(1), 0);
        checks.same("step", x.count(0), 61);
    }

    private static void goingFree() {
        for (int d = 0; d < 4; d++) {
            LaneCrowds x = new LaneCrowds();
            x.gather(5, 4, 1);
            x.gather(5 + DX[d], 4 + DY[d], 1);
            x.order(0, d);
            x.order(0, d);
            x.pass(1);
            at(x, 0, 5 + DX[d], 4 + DY[d]);
            x.house(5 + 2 * DX[d], 4 + 2 * DY[d]);
            x.pass(1);
            at(x, 0, 5 + DX[d], 4 + DY[d]);
            checks.same("a house is missed", x.crowd(0, 6), 1);
            checks.same("no orders are left", x.crowd(0, 4), 0);
            at(x, 1, 5 + DX[d], 4 + DY[d]);
        }
    }

    private static void pushing() {
        for (int d = 0; d < 4; d++) {
            for (int people = 1; people <= 9; people++) {
                for (int b = 1; b <= 3; b++) {
                    for (int behind = -1; behind <= 3; behind++) {
                        push(d, people, b, behind, false);
                        push(d, people, b, behind, true);
                    }
                }
            }
        }
    }

    private static void push(int d, int people, int b, int behind, boolean somebody) {
        LaneCrowds x = new LaneCrowds();
        x.gather(5, 4, people);
        x.order(0, d);
        x.block(5 + DX[d], 4 + DY[d], b);
        if (behind < 0) {
            x.house(5 + 2 * DX[d], 4 + 2 * DY[d]);
        } else {
            x.block(5 + 2 * DX[d], 4 + 2 * DY[d], behind);
        }
        if (somebody && behind == 0) {
            x.gather(5 + 2 * DX[d], 4 + 2 * DY[d], 1);
        }
        boolean done = people >= 2 * b && behind >= 0 && behind + b <= 3 && !(somebody && behind == 0);
        x.pass(1);
        int to = done ? 1 : 0;
        at(x, 0, 5 + to * DX[d], 4 + to * DY[d]);
        checks.same("neighbour of a push", x.cell(5 + DX[d], 4 + DY[d]), done ? 0 : b);
        checks.same("behind a push", x.cell(5 + 2 * DX[d], 4 + 2 * DY[d]), done ? behind + b : behind);
        checks.same("missed push", x.crowd(0, 6), 1 - to);
    }

    private static void pushingWithPatrolBehind() {
        LaneCrowds x = new LaneCrowds();
        x.block(6, 4, 1);
        x.gather(5, 4, 9);
        x.patrol(7, 4, 1, 1);
        x.order(0, 1);
        x.order(0, 1);
        x.pass(1);
        at(x, 0, 5, 4);
        checks.same("missed", x.crowd(0, 6), 1);
        x.pass(1);
        at(x, 0, 6, 4);
        checks.same("pushed when the patrol was gone", x.cell(7, 4), 1);
    }

    private static void raising() {
        for (int d = 0; d < 4; d++) {
            for (int people = 1; people <= 9; people++) {
                for (int had = -1; had <= 3; had++) {
                    LaneCrowds x = new LaneCrowds();
                    x.gather(5, 4, people);
                    x.order(0, 4 + d);
                    if (had < 0) {
                        x.house(5 + DX[d], 4 + DY[d]);
                    } else {
                        x.block(5 + DX[d], 4 + DY[d], had);
                    }
                    x.pass(1);
                    boolean done = people >= 3 && had >= 0 && had < 3;
                    checks.same("raised", x.cell(5 + DX[d], 4 + DY[d]), done ? had + 1 : had);
                    checks.same("missed raise", x.crowd(0, 6), done ? 0 : 1);
                    at(x, 0, 5, 4);
                }
            }
        }
        LaneCrowds x = new LaneCrowds();
        x.gather(5, 4, 9);
        x.gather(6, 4, 1);
        x.patrol(4, 4, 1, 3);
        x.order(0, 5);
        x.order(0, 7);
        x.pass(1);
        checks.same("not raised on a crowd", x.cell(6, 4), 0);
        checks.same("missed", x.crowd(0, 6), 1);
        x.pass(1);
        checks.same("raised where the patrol was", x.cell(4, 4), 1);
        checks.same("missed", x.crowd(0, 6), 1);
        LaneCrowds y = new LaneCrowds();
        y.gather(5, 4, 9);
        y.patrol(4, 4, 1, 3);
        y.order(0, 7);
        y.pass(1);
        checks.same("not raised on a patrol", y.cell(4, 4), 0);
        checks.same("missed", y.crowd(0, 6), 1);
    }

    private static void pullingDown() {
        for (int d = 0; d < 4; d++) {
            for (int had = -1; had <= 3; had++) {
                LaneCrowds x = new LaneCrowds();
                x.gather(5, 4, 1);
                x.order(0, 8 + d);
                if (had < 0) {
                    x.house(5 + DX[d], 4 + DY[d]);
                } else {
                    x.block(5 + DX[d], 4 + DY[d], had);
                }
                x.pass(1);
                checks.same("pulled down", x.cell(5 + DX[d], 4 + DY[d]), had > 0 ? had - 1 : had);
                checks.same("missed", x.crowd(0, 6), had > 0 ? 0 : 1);
                at(x, 0, 5, 4);
            }
        }
    }

    private static void ordersAtTheEdge() {
        int[][] corners = {{0, 0}, {11, 0}, {11, 8}, {0, 8}};
        int[][] outward = {{0, 3}, {0, 1}, {1, 2}, {2, 3}};
        for (int i = 0; i < 4; i++) {
            for (int d : outward[i]) {
                for (int kind = 0; kind < 3; kind++) {
                    LaneCrowds x = new LaneCrowds();
                    x.gather(corners[i][0], corners[i][1], 9);
                    x.block((corners[i][0] + 6) % 12, corners[i][1], 2);
                    x.order(0, 4 * kind + d);
                    x.pass(1);
                    at(x, 0, corners[i][0], corners[i][1]);
                    checks.same("missed outside", x.crowd(0, 6), 1);
                    checks.same("barricades", x.count(2), 2);
                }
            }
        }
        for (int d = 0; d < 4; d++) {
            int edgeX = d == 1 ? 11 : d == 3 ? 0 : 5;
            int edgeY = d == 0 ? 0 : d == 2 ? 8 : 4;
            LaneCrowds x = new LaneCrowds();
            x.block(edgeX, edgeY, 1);
            x.gather(edgeX - DX[d], edgeY - DY[d], 9);
            x.order(0, d);
            x.pass(1);
            at(x, 0, edgeX - DX[d], edgeY - DY[d]);
            checks.same("nothing is pushed outside", x.cell(edgeX, edgeY), 1);
            checks.same("missed", x.crowd(0, 6), 1);
        }
    }

    private static void scatteredCrowdsAreNowhere() {
        LaneCrowds x = new LaneCrowds();
        x.gather(7, 4, 1);
        x.order(0, 0);
        x.order(0, 0);
        x.patrol(7, 3, 4, 0);
        checks.same("lost", x.pass(1), 1);
        at(x, 0, 7, 3);
        x.gather(5, 3, 9);
        x.torch(1);
        x.block(6, 3, 2);
        x.order(1, 1);
        x.pass(1);
        checks.same("pushed to where it was", x.cell(7, 3), 2);
        at(x, 1, 6, 3);
        at(x, 0, 7, 3);
        checks.same("its orders stay", x.crowd(0, 4), 1);
        checks.same("it misses none", x.crowd(0, 6), 0);
        x.order(1, 5);
        x.pass(1);
        checks.same("raised where it was", x.cell(7, 3), 3);
    }

    private static void crowdsInTheirOrder() {
        LaneCrowds x = new LaneCrowds();
        x.gather(4, 4, 9);
        x.gather(5, 5, 9);
        x.order(0, 5);
        x.order(1, 0);
        x.pass(1);
        checks.same("the first one raises", x.cell(5, 4), 0);
        checks.same("the second one pushes it", x.cell(5, 3), 1);
        at(x, 1, 5, 4);
        checks.same("missed", x.count(7), 0);
        LaneCrowds y = new LaneCrowds();
        y.gather(5, 5, 9);
        y.gather(4, 4, 9);
        y.order(0, 0);
        y.order(1, 5);
        y.pass(1);
        at(y, 0, 5, 4);
        checks.same("nothing is raised on the first one", y.cell(5, 4), 0);
        checks.same("missed by the second one", y.crowd(1, 6), 1);
    }

    private static void patrolsMoveBehindOrders() {
        LaneCrowds x = new LaneCrowds();
        x.patrol(5, 4, 2, 1 + 4 * 2);
        x.gather(6, 3, 9);
        x.order(0, 6);
        x.order(0, 0);
        checks.same("seen nowhere", x.pass(1), 0);
        checks.same("raised ahead of the patrol", x.cell(6, 4), 1);
        checks.same("it stays", x.guard(0, 0), 5);
        checks.same("the direction is done all the same", x.guard(0, 2), 2);
        x.pass(1);
        checks.same("it goes down", x.guard(0, 1), 5);
        LaneCrowds y = new LaneCrowds();
        y.patrol(5, 4, 1, 1);
        y.patrol(6, 4, 1, 3);
        y.pass(1);
        checks.same("patrols pass one another", y.guard(0, 0) * 100 + y.guard(1, 0), 605);
        y.house(7, 4);
        y.pass(1);
        checks.same("a house stops one", y.guard(0, 0), 6);
    }

    private static void peopleLost() {
        LaneCrowds x = new LaneCrowds();
        x.gather(0, 0, 2);
        x.gather(0, 0, 9);
        x.gather(11, 8, 5);
        for (int i = 0; i < 3; i++) {
            x.patrol(0, 0, 1, 0);
        }
        checks.same("lost at least to 0", x.pass(1), 5);
        checks.same("people", x.crowd(0, 2), 0);
        checks.same("people", x.crowd(1, 2), 6);
        checks.same("people", x.crowd(2, 2), 5);
        checks.same("lost", x.pass(60), 6);
        checks.same("left", x.count(5), 5);
        LaneCrowds y = new LaneCrowds();
        y.gather(4, 4, 9);
        y.patrol(4, 0, 2, 2);
        y.order(0, 1);
        checks.same("gone out of sight", y.pass(1), 0);
        y.order(0, 3);
        checks.same("gone into sight", y.pass(1), 1);
    }

    private static void at(LaneCrowds x, int crowd, int dueX, int dueY) {
        checks.same("x of crowd " + crowd, x.crowd(crowd, 0), dueX);
        checks.same("y of crowd " + crowd, x.crowd(crowd, 1), dueY);
    }
}
