/** The edges of promise 15 and of the four parts of a step, a sentence of the document at a time: pass. */
public final class EdgesOfStepsTest {
    private static final int LOW = Integer.MIN_VALUE;
    private static final int HIGH = Integer.MAX_VALUE;

    private static final Checks checks = new Checks();

    public static void main(String[] args) {
        passOneToSixty();
        passJustBeyondWhatIsAllowed();
        passInAnEmptyQuarter();
        passInAFullQuarter();
        passIsThatManyStepsOneByOne();
        passReturnsWhoIsLostInAllSteps();
        crowdsActByNumbers();
        crowdsActBeforePatrolsGo();
        patrolsGoByNumbersAndDontMind();
        patrolsGoWhereABarricadeWasPulledDown();
        peopleAreLostWhereCrowdsAndPatrolsAreThen();
        aTorchAtTheLastDistanceCostsPeople();
        atLeastNought();
        theLastOrderBeforeItIsScattered();
        crowdsInOneCellAreLostEachForItself();
        theStepIsOneGreater();
        fiveHundredAndTwelveCalls();
        checks.end();
    }

    private static void passOneToSixty() {
        for (int steps = 1; steps <= 60; steps++) {
            LaneCrowds x = new LaneCrowds();
            checks.same("pass " + steps, x.pass(steps), 0);
            checks.same("the step", x.count(0), steps);
        }
    }

    private static void passJustBeyondWhatIsAllowed() {
        LaneCrowds x = new LaneCrowds();
        x.gather(5, 5, 9);
        x.patrol(5, 5, 1, 0);
        for (int steps : new int[] {0, 61, -1, 62, -60, 256 + 1, LOW, HIGH}) {
            checks.badArgument("pass " + steps, x, () -> x.pass(steps));
        }
        checks.same("the step", x.count(0), 0);
        checks.same("people", x.count(5), 9);
    }

    private static void passInAnEmptyQuarter() {
        LaneCrowds x = new LaneCrowds();
        checks.same("pass", x.pass(60), 0);
        int[] due = {60, 0, 0, 108, 0, 0, 0, 0};
        for (int what = 0; what < 8; what++) {
            checks.same("count(" + what + ")", x.count(what), due[what]);
        }
    }

    private static void passInAFullQuarter() {
        LaneCrowds x = new LaneCrowds();
        for (int i = 0; i < 6; i++) {
            x.gather(5, 5, 9);
            for (int k = 0; k < 24; k++) {
                x.order(i, k % 4 + 8);
            }
        }
        for (int i = 0; i < 3; i++) {
            x.patrol(5, 5, 4, 0 + 4 * 2 + 16 * 1 + 64 * 3);
        }
        checks.same("lost in the first step", x.pass(1), 18);
        checks.same("lost in the second step", x.pass(1), 18);
        checks.same("lost in all others", x.pass(58), 18);
        checks.same("missed", x.count(7), 18);
        checks.same("orders that are kept", x.crowd(5, 4), 21);
        checks.same("crowds", x.count(4), 0);
        checks.same("patrols", x.count(6), 3);
    }

    private static LaneCrowds night() {
        LaneCrowds x = new LaneCrowds();
        x.block(4, 4, 2);
        x.house(6, 4);
        x.gather(3, 4, 9);
        x.gather(4, 6, 4);
        x.gather(0, 0, 1);
        x.patrol(4, 8, 3, 16 * 2);
        x.patrol(9, 4, 12, 3 + 4 * 3 + 16 * 3);
        int[] codes = {1, 5, 0, 9, 3, 0, 11, 2, 6, 1, 4, 8};
        for (int code : codes) {
            x.order(0, code);
            x.order(1, 11 - code);
        }
        return x;
    }

    private static void passIsThatManyStepsOneByOne() {
        for (int steps = 1; steps <= 60; steps++) {
            LaneCrowds x = night();
            LaneCrowds y = night();
            int lost = 0;
            for (int i = 0; i < steps; i++) {
                lost += y.pass(1);
            }
            checks.same("pass " + steps, x.pass(steps), lost);
            checks.same("digest() behind " + steps, x.digest(), y.digest());
        }
    }

    private static void passReturnsWhoIsLostInAllSteps() {
        LaneCrowds x = night();
        int before = x.count(5);
        int lost = x.pass(60);
        checks.same("lost", lost, before - x.count(5));
        checks.holds("somebody was lost", lost > 0);
        checks.same("none is lost twice", x.pass(60) + lost, before - x.count(5));
    }

    /** Crowd 0 raises a barricade, crowd 1 pulls it down, crowd 2 goes there: all in one step. */
    private static void crowdsActByNumbers() {
        LaneCrowds x = new LaneCrowds();
        x.gather(5, 4, 3);
        x.gather(6, 3, 1);
        x.gather(7, 4, 1);
        x.order(0, 5);
        x.order(1, 10);
        x.order(2, 3);
        x.pass(1);
        checks.same("missed", x.count(7), 0);
        checks.same("crowd 2 is there", x.crowd(2, 0) * 10 + x.crowd(2, 1), 64);
        LaneCrowds y = new LaneCrowds();
        y.gather(7, 4, 1);
        y.gather(6, 3, 1);
        y.gather(5, 4, 3);
        y.order(0, 3);
        y.order(1, 10);
        y.order(2, 5);
        y.pass(1);
        checks.same("the other way round two of them miss", y.count(7), 2);
        checks.same("crowd 0 is there", y.crowd(0, 0) * 10 + y.crowd(0, 1), 64);
        checks.same("barricades", y.count(2), 0);
    }

    private static void crowdsActBeforePatrolsGo() {
        LaneCrowds x = new LaneCrowds();
        x.gather(5, 4, 9);
        x.torch(0);
        x.patrol(6, 4, 2, 1 + 4 * 3);
        x.order(0, 5);
        x.order(0, 5);
        x.pass(1);
        checks.same("the patrol was still there", x.crowd(0, 6), 1);
        x.pass(1);
        checks.same("it wasn't there yet", x.crowd(0, 6), 1);
        checks.same("so it stays outside", x.guard(0, 0), 7);
        checks.same("its direction is done", x.guard(0, 2), 1);
    }

    private static void patrolsGoByNumbersAndDontMind() {
        LaneCrowds x = new LaneCrowds();
        x.patrol(0, 4, 1, 3);
        x.patrol(1, 4, 1, 3);
        x.patrol(2, 4, 1, 3);
        x.pass(1);
        for (int i = 0; i < 3; i++) {
            checks.same("patrol " + i, x.guard(i, 0), Math.max(0, i - 1));
        }
        x.pass(60);
        for (int i = 0; i < 3; i++) {
            checks.same("patrol " + i + " at the rim", x.guard(i, 0), 0);
        }
    }

    private static void patrolsGoWhereABarricadeWasPulledDown() {
        LaneCrowds x = new LaneCrowds();
        x.block(6, 4, 1);
        x.patrol(7, 4, 1, 3);
        x.gather(5, 4, 9);
        x.torch(0);
        x.order(0, 9);
        checks.same("it comes near enough to see them", x.pass(1), 1);
        checks.same("the patrol", x.guard(0, 0), 6);
    }

    private static void peopleAreLostWhereCrowdsAndPatrolsAreThen() {
        LaneCrowds x = new LaneCrowds();
        x.gather(5, 0, 9);
        x.patrol(5, 5, 1, 0);
        checks.same("seen before", x.crowd(0, 7), 0);
        checks.same("lost behind one step", x.pass(1), 1);
        LaneCrowds y = new LaneCrowds();
        y.gather(5, 0, 9);
        y.patrol(5, 4, 1, 2);
        checks.same("seen before", y.crowd(0, 7), 1);
        checks.same("lost behind one step", y.pass(1), 0);
        LaneCrowds z = new LaneCrowds();
        z.gather(5, 0, 9);
        z.patrol(4, 3, 1, 1);
        z.order(0, 1);
        checks.same("both move, into two columns", z.pass(1), 0);
        LaneCrowds w = new LaneCrowds();
        w.gather(5, 0, 9);
        w.patrol(5, 3, 1, 1);
        w.order(0, 1);
        checks.same("both move into one column", w.pass(1), 1);
        LaneCrowds v = new LaneCrowds();
        v.gather(5, 1, 9);
        v.patrol(5, 4, 1, 2);
        v.order(0, 6);
        checks.same("hidden by what is raised in the step", v.pass(1), 0);
        LaneCrowds u = new LaneCrowds();
        u.gather(5, 1, 9);
        u.block(5, 2, 1);
        u.patrol(5, 4, 1, 2);
        u.order(0, 10);
        checks.same("shown by what is pulled down in the step", u.pass(1), 1);
    }

    private static void aTorchAtTheLastDistanceCostsPeople() {
        for (int far = 0; far <= 8; far++) {
            LaneCrowds x = new LaneCrowds();
            x.patrol(0, 0, 1, 3);
            x.gather(far, 0, 9);
            x.gather(far, 0, 9);
            x.torch(1);
            checks.same("lost at " + far, x.pass(1), (far <= 4 ? 1 : 0) + (far <= 1 ? 1 : 0));
            checks.same("with a torch", x.crowd(0, 2), far <= 4 ? 8 : 9);
            checks.same("without one", x.crowd(1, 2), far <= 1 ? 8 : 9);
        }
    }

    private static void atLeastNought() {
        for (int people = 1; people <= 4; people++) {
            for (int patrols = 0; patrols <= 3; patrols++) {
                LaneCrowds x = new LaneCrowds();
                x.gather(0, 0, people);
                for (int i = 0; i < patrols; i++) {
                    x.patrol(0, 0, 1, 0);
                }
                checks.same("lost of " + people + " by " + patrols, x.pass(1), Math.min(people, patrols));
                checks.same("left", x.crowd(0, 2), Math.max(0, people - patrols));
                checks.same("not scattered", x.count(4), people > patrols ? 1 : 0);
                checks.same("lost in the next steps", x.pass(60), patrols == 0 ? 0 : Math.max(0, people - patrols));
            }
        }
    }

    private static void theLastOrderBeforeItIsScattered() {
        LaneCrowds x = new LaneCrowds();
        x.gather(5, 4, 1);
        x.block(6, 4, 2);
        x.order(0, 9);
        x.order(0, 9);
        x.patrol(5, 4, 1, 3);
        checks.same("lost", x.pass(1), 1);
        checks.same("it pulled down one", x.cell(6, 4), 1);
        x.pass(60);
        checks.same("but not the other", x.cell(6, 4), 1);
        checks.same("its order is kept", x.crowd(0, 5), 9);
    }

    private static void crowdsInOneCellAreLostEachForItself() {
        LaneCrowds x = new LaneCrowds();
        for (int i = 1; i <= 6; i++) {
            x.gather(0, 0, i);
        }
        x.patrol(0, 0, 1, 0);
        x.patrol(0, 0, 1, 0);
        checks.same("lost", x.pass(1), 1 + 2 + 2 + 2 + 2 + 2);
        checks.same("crowds", x.count(4), 4);
        checks.same("lost", x.pass(1), 1 + 2 + 2 + 2);
        checks.same("lost", x.pass(1), 1 + 2);
        checks.same("lost", x.pass(1), 0);
    }

    private static void theStepIsOneGreater() {
        LaneCrowds x = night();
        for (int i = 1; i <= 60; i++) {
            x.pass(1);
            checks.same("the step", x.count(0), i);
        }
        checks.badArgument("pass 0", x, () -> x.pass(0));
        checks.same("the step behind a call that throws", x.count(0), 60);
    }

    private static void fiveHundredAndTwelveCalls() {
        LaneCrowds x = new LaneCrowds();
        for (int i = 0; i < 511; i++) {
            checks.same("pass 60", x.pass(60), 0);
        }
        checks.same("the step, told by the last call", x.count(0), 511 * 60);
    }
}
