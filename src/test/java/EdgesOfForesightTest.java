/** The edges of promises 16 and 17, a sentence of the document at a time: foresee, advise. */
public final class EdgesOfForesightTest {
    private static final int LOW = Integer.MIN_VALUE;
    private static final int HIGH = Integer.MAX_VALUE;

    private static final Checks checks = new Checks();

    public static void main(String[] args) {
        foreseeJustBeyondWhatIsAllowed();
        foreseeOfNoSuchNumber();
        foreseeNamesStepsFirst();
        foreseeInAnEmptyQuarter();
        foreseeInAFullQuarter();
        foreseeOneStep();
        foreseeSixtySteps();
        foreseeWhatPassBrings();
        foreseePeopleThatAreLeft();
        foreseeBarricades();
        foreseeAQuarterThatIsShut();
        foreseeChangesNothing();
        adviseOfNoSuchCrowd();
        adviseForAScatteredCrowd();
        adviseTheLeastOfEquals();
        adviseEachDirectionOfEachOrder();
        adviseWithoutOrdersAndWithTwentyFour();
        adviseInThePlaceOfAllItsOrders();
        adviseBehindOneStepAlone();
        adviseWithWhatOthersDoInThisStep();
        adviseWithPeopleJustEnough();
        adviseNothingWorse();
        adviseAtTheRim();
        adviseChangesNothing();
        checks.end();
    }

    private static void foreseeJustBeyondWhatIsAllowed() {
        LaneCrowds x = full();
        for (int steps : new int[] {0, 61, -1, 62, LOW, HIGH}) {
            for (int what = 0; what <= 2; what++) {
                int one = what;
                checks.badArgument("foresee(" + steps + ", " + what + ")", x, () -> x.foresee(steps, one));
            }
        }
    }

    private static void foreseeOfNoSuchNumber() {
        LaneCrowds x = full();
        for (int what : new int[] {-1, 3, 4, -3, LOW, HIGH}) {
            for (int steps : new int[] {1, 2, 59, 60}) {
                checks.outside("foresee(" + steps + ", " + what + ")", x, () -> x.foresee(steps, what));
            }
        }
    }

    private static void foreseeNamesStepsFirst() {
        LaneCrowds x = full();
        for (int what : new int[] {-1, 3, LOW, HIGH}) {
            for (int steps : new int[] {0, 61, LOW, HIGH}) {
                checks.badArgument("foresee(" + steps + ", " + what + ")", x, () -> x.foresee(steps, what));
            }
        }
    }

    private static void foreseeInAnEmptyQuarter() {
        LaneCrowds x = new LaneCrowds();
        for (int steps = 1; steps <= 60; steps++) {
            checks.same("people", x.foresee(steps, 0), 0);
            checks.same("barricades", x.foresee(steps, 1), 0);
            checks.same("shuts", x.foresee(steps, 2), 9);
        }
        checks.same("the step", x.count(0), 0);
    }

    /** 6 crowds with 24 orders each, 3 patrols with rounds of 12. */
    private static LaneCrowds full() {
        LaneCrowds x = new LaneCrowds();
        int[][] places = {{2, 2}, {5, 2}, {8, 2}, {2, 6}, {5, 6}, {8, 6}};
        for (int i = 0; i < 6; i++) {
            x.gather(places[i][0], places[i][1], 9 - i);
            for (int k = 0; k < 24; k++) {
                x.order(i, (5 * i + 7 * k + k * k) % 12);
            }
        }
        for (int i = 0; i < 3; i++) {
            x.patrol(11 * (i % 2), 4 * i, 12, 7654321 * (i + 1) % 16777216);
        }
        return x;
    }

    private static void foreseeInAFullQuarter() {
        for (int steps = 1; steps <= 60; steps++) {
            LaneCrowds x = full();
            LaneCrowds y = full();
            y.pass(steps);
            checks.same("people", x.foresee(steps, 0), y.count(5));
            checks.same("barricades", x.foresee(steps, 1), y.count(2));
            checks.same("shuts", x.foresee(steps, 2), y.shuts());
        }
    }

    private static void foreseeOneStep() {
        LaneCrowds x = new LaneCrowds();
        x.gather(0, 0, 9);
        x.patrol(0, 0, 1, 0);
        x.order(0, 5);
        checks.same("people behind one step", x.foresee(1, 0), 8);
        checks.same("barricades behind one step", x.foresee(1, 1), 1);
        checks.same("shuts behind one step", x.foresee(1, 2), 8);
    }

    private static void foreseeSixtySteps() {
        LaneCrowds x = new LaneCrowds();
        x.gather(11, 8, 9);
        x.gather(0, 0, 1);
        x.patrol(6, 4, 12, 0);
        x.pass(60);
        x.pass(60);
        checks.same("none is seen", x.foresee(60, 0), 10);
        x.patrol(5, 8, 1, 1);
        checks.same("the patrol is too far at first", x.foresee(1, 0), 10);
        checks.same("and near then", x.foresee(2, 0), 9);
        checks.same("people behind 9 steps", x.foresee(9, 0), 2);
        checks.same("people behind 10 steps", x.foresee(10, 0), 1);
        checks.same("people behind 60 steps", x.foresee(60, 0), 1);
    }

    private static void foreseeWhatPassBrings() {
        for (int steps = 1; steps <= 60; steps += 7) {
            LaneCrowds x = full();
            x.pass(3);
            int people = x.foresee(steps, 0);
            int barricades = x.foresee(steps, 1);
            int shuts = x.foresee(steps, 2);
            int lost = x.pass(steps);
            checks.same("people", x.count(5), people);
            checks.same("barricades", x.count(2), barricades);
            checks.same("shuts()", x.shuts(), shuts);
            LaneCrowds y = full();
            y.pass(3);
            checks.same("lost", lost, y.count(5) - people);
        }
    }

    private static void foreseePeopleThatAreLeft() {
        LaneCrowds x = new LaneCrowds();
        x.gather(0, 0, 2);
        x.gather(0, 0, 9);
        x.patrol(0, 0, 1, 0);
        x.patrol(0, 0, 1, 0);
        int[] due = {7, 5, 3, 1, 0, 0};
        for (int i = 0; i < due.length; i++) {
            checks.same("people behind " + (i + 1), x.foresee(i + 1, 0), due[i]);
        }
        checks.same("people now", x.count(5), 11);
        x.pass(60);
        checks.same("people of scattered crowds", x.foresee(60, 0), 0);
    }

    private static void foreseeBarricades() {
        LaneCrowds x = new LaneCrowds();
        x.gather(0, 0, 9);
        x.block(11, 8, 3);
        for (int code : new int[] {5, 5, 5, 5, 9, 6}) {
            x.order(0, code);
        }
        int[] due = {4, 5, 6, 6, 5, 6, 6};
        for (int i = 0; i < due.length; i++) {
            checks.same("barricades behind " + (i + 1), x.foresee(i + 1, 1), due[i]);
        }
        checks.same("barricades now", x.count(2), 3);
        checks.same("orders now", x.crowd(0, 4), 6);
    }

    private static void foreseeAQuarterThatIsShut() {
        LaneCrowds x = Nights.wall(6, 4);
        x.gather(5, 4, 3);
        x.order(0, 1 + 4);
        x.order(0, 1 + 8);
        checks.same("shuts now", x.shuts(), 1);
        checks.same("shut behind one step", x.foresee(1, 2), 0);
        checks.same("open again behind two", x.foresee(2, 2), 1);
        checks.same("and behind sixty", x.foresee(60, 2), 1);
        checks.same("shuts now", x.shuts(), 1);
    }

    private static void foreseeChangesNothing() {
        LaneCrowds x = full();
        LaneCrowds y = full();
        for (int steps = 1; steps <= 60; steps++) {
            for (int what = 0; what <= 2; what++) {
                x.foresee(steps, what);
            }
        }
        checks.same("digest()", x.digest(), y.digest());
        for (int i = 0; i < 30; i++) {
            checks.same("lost", x.pass(1), y.pass(1));
            checks.same("digest()", x.digest(), y.digest());
        }
    }

    private static void adviseOfNoSuchCrowd() {
        for (int i = 0; i <= 6; i++) {
            LaneCrowds x = new LaneCrowds();
            for (int k = 0; k < i; k++) {
                x.gather(k, 0, 9);
            }
            for (int bad : new int[] {-1, i, 6, 7, LOW, HIGH}) {
                checks.outside("advise(" + bad + ") of " + i, x, () -> x.advise(bad));
            }
        }
    }

    private static void adviseForAScatteredCrowd() {
        LaneCrowds x = Nights.wall(6, 4);
        x.gather(5, 4, 1);
        x.gather(7, 4, 9);
        x.order(0, 5);
        x.order(0, 5);
        x.patrol(5, 4, 1, 3);
        x.pass(1);
        checks.same("people", x.crowd(0, 2), 0);
        checks.same("advise for a scattered crowd", x.advise(0), -1);
        checks.same("advise for the other one", x.advise(1), 7);
    }

    private static void adviseTheLeastOfEquals() {
        LaneCrowds x = new LaneCrowds();
        x.gather(5, 4, 2);
        checks.same("nothing that it can do shuts anything", x.advise(0), 0);
        LaneCrowds y = new LaneCrowds();
        y.gather(5, 4, 3);
        checks.same("all four raises are as good", y.advise(0), 4);
        LaneCrowds z = Nights.wall(6, 4);
        z.house(6, 4);
        z.gather(5, 4, 9);
        checks.same("shut already, all are as good", z.advise(0), 0);
    }

    /** One gap beside the crowd: a raise shuts it, or a push from the other side of the crowd's neighbour. */
    private static void adviseEachDirectionOfEachOrder() {
        LaneCrowds up = new LaneCrowds();
        LaneCrowds down = new LaneCrowds();
        for (int y = 0; y < 9; y++) {
            if (y <= 3) {
                up.house(4, y);
            }
            if (y >= 3) {
                up.house(6, y);
            }
            if (y >= 5) {
                down.house(4, y);
            }
            if (y <= 5) {
                down.house(6, y);
            }
        }
        advised("up", up, 5, 4, 4);
        advised("right", Nights.wall(6, 4), 5, 4, 5);
        advised("down", down, 5, 4, 6);
        advised("left", Nights.wall(4, 4), 5, 4, 7);
        LaneCrowds right = Nights.wall(7, 4);
        right.block(5, 4, 2);
        right.gather(4, 4, 4);
        checks.same("push to the right", right.advise(0), 1);
        LaneCrowds left = Nights.wall(4, 4);
        left.block(6, 4, 2);
        left.gather(7, 4, 4);
        checks.same("push to the left", left.advise(0), 3);
    }

    private static void advised(String call, LaneCrowds x, int atX, int atY, int due) {
        x.gather(atX, atY, 3);
        checks.same("shuts() ahead of a raise " + call, x.shuts(), 1);
        checks.same("raise " + call, x.advise(0), due);
        x.order(0, due);
        checks.same("behind it", x.foresee(1, 2), 0);
    }

    private static void adviseWithoutOrdersAndWithTwentyFour() {
        LaneCrowds x = Nights.wall(6, 4);
        x.gather(5, 4, 3);
        for (int i = 0; i <= 24; i++) {
            checks.same("advise with " + i + " orders", x.advise(0), 5);
            checks.same("orders", x.crowd(0, 4), i);
            if (i < 24) {
                x.order(0, i % 12);
            }
        }
    }

    private static void adviseInThePlaceOfAllItsOrders() {
        LaneCrowds x = Nights.wall(6, 4);
        x.gather(5, 4, 3);
        x.order(0, 0);
        x.order(0, 5);
        checks.same("its own order would lead it away", x.advise(0), 5);
        LaneCrowds y = Nights.wall(6, 4);
        y.gather(5, 4, 3);
        y.order(0, 5);
        checks.same("it is asked for again", y.advise(0), 5);
    }

    /** In the second step the other one shuts the gap, so that all would be as good then. */
    private static void adviseBehindOneStepAlone() {
        LaneCrowds x = Nights.wall(6, 4);
        x.gather(5, 4, 3);
        x.gather(7, 4, 3);
        x.order(1, 9);
        x.order(1, 7);
        checks.same("behind two steps it is shut", x.foresee(2, 2), 0);
        checks.same("behind one step it isn't", x.foresee(1, 2), 1);
        checks.same("advise", x.advise(0), 5);
    }

    private static void adviseWithWhatOthersDoInThisStep() {
        LaneCrowds x = Nights.wall(6, 4);
        x.gather(5, 4, 3);
        x.gather(7, 4, 3);
        x.order(1, 7);
        checks.same("the other one shuts it", x.advise(0), 0);
        x.order(0, 1);
        checks.same("crowd 0 goes into the gap ahead of it", x.advise(1), 0);
        LaneCrowds y = Nights.wall(6, 4);
        y.gather(5, 4, 3);
        y.gather(7, 4, 3);
        y.block(6, 4, 1);
        y.order(1, 11);
        checks.same("the other one pulls down one of two", y.advise(0), 5);
        LaneCrowds z = Nights.wall(6, 4);
        z.gather(5, 4, 4);
        z.patrol(6, 4, 1, 1);
        checks.same("the patrol is still in the gap, and nothing else helps", z.advise(0), 0);
        z.pass(1);
        checks.same("the patrol is gone, three people are left", z.advise(0), 5);
    }

    private static void adviseWithPeopleJustEnough() {
        LaneCrowds x = Nights.wall(6, 4);
        x.gather(5, 4, 3);
        x.gather(5, 4, 2);
        checks.same("three can raise", x.advise(0), 5);
        checks.same("two can't", x.advise(1), 0);
        LaneCrowds y = Nights.wall(7, 4);
        y.block(5, 4, 1);
        y.gather(4, 4, 2);
        y.gather(4, 4, 1);
        checks.same("two can push one", y.advise(0), 1);
        checks.same("one can't", y.advise(1), 0);
    }

    private static void adviseNothingWorse() {
        LaneCrowds x = Nights.wall(6, 4);
        x.gather(5, 4, 9);
        x.block(6, 4, 1);
        checks.same("go up, the wall stands", x.advise(0), 0);
        x.order(0, 9);
        checks.same("its own order would open it", x.foresee(1, 2), 1);
        checks.same("advise", x.advise(0), 0);
        LaneCrowds y = new LaneCrowds();
        for (int row = 0; row < 9; row++) {
            if (row <= 3) {
                y.house(4, row);
            } else {
                y.house(6, row);
            }
        }
        y.block(5, 3, 1);
        y.gather(5, 4, 9);
        checks.same("shut by a barricade between two corners", y.shuts(), 0);
        checks.same("pushing it up would open it, the house on the right stays", y.advise(0), 1);
    }

    private static void adviseAtTheRim() {
        int[][] corners = {{0, 0}, {11, 0}, {0, 8}, {11, 8}};
        int[] due = {5, 6, 4, 4};
        for (int i = 0; i < 4; i++) {
            LaneCrowds x = new LaneCrowds();
            x.gather(corners[i][0], corners[i][1], 9);
            checks.same("a raise from the corner " + i, x.advise(0), due[i]);
            LaneCrowds y = new LaneCrowds();
            y.gather(corners[i][0], corners[i][1], 2);
            checks.same("nothing from the corner " + i, y.advise(0), 0);
        }
    }

    private static void adviseChangesNothing() {
        LaneCrowds x = full();
        LaneCrowds y = full();
        for (int i = 0; i < 36; i++) {
            x.advise(i % 6);
        }
        checks.same("digest()", x.digest(), y.digest());
        for (int i = 0; i < 30; i++) {
            checks.same("lost", x.pass(1), y.pass(1));
            checks.same("digest()", x.digest(), y.digest());
        }
    }
}
