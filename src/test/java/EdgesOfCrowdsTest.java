/** The edges of promises 5, 6, 7 and 9, a sentence of the document at a time: gather, order, torch, crowd. */
public final class EdgesOfCrowdsTest {
    private static final int LOW = Integer.MIN_VALUE;
    private static final int HIGH = Integer.MAX_VALUE;

    private static final Checks checks = new Checks();

    public static void main(String[] args) {
        gatherInEveryCell();
        gatherOutside();
        gatherEachNumberOfPeople();
        gatherJustBeyondWhatIsAllowed();
        gatherInAFreeCellOnly();
        gatherWhereOthersAre();
        gatherSixAndNoSeventh();
        gatherNoSeventhWhenAllAreScattered();
        crowdsAreNumberedInTheirOrder();
        orderEachCode();
        orderJustBeyondWhatIsAllowed();
        orderOfNoSuchCrowd();
        orderTwentyFourAndNoMore();
        orderOfAScatteredCrowd();
        ordersOfSixCrowdsAreTheirOwn();
        torchBurnsAtFirst();
        torchOfNoSuchCrowd();
        torchOfAScatteredCrowd();
        crowdOfNoSuchNumber();
        crowdWithoutOrders();
        crowdWithTwentyFourOrders();
        crowdSeenByNoneToThree();
        crowdScatteredTellsItsLastCell();
        checks.end();
    }

    private static void gatherInEveryCell() {
        for (int i = 0; i < 108; i++) {
            LaneCrowds x = new LaneCrowds();
            checks.same("gather", x.gather(i % 12, i / 12, 1), 0);
            checks.same("x", x.crowd(0, 0), i % 12);
            checks.same("y", x.crowd(0, 1), i / 12);
        }
    }

    private static void gatherOutside() {
        LaneCrowds x = new LaneCrowds();
        for (int bad : new int[] {-1, 12, 13, 107, LOW, HIGH}) {
            checks.outside("gather x " + bad, x, () -> x.gather(bad, 0, 1));
            checks.outside("gather x " + bad, x, () -> x.gather(bad, 8, 9));
        }
        for (int bad : new int[] {-1, 9, 10, 11, LOW, HIGH}) {
            checks.outside("gather y " + bad, x, () -> x.gather(0, bad, 1));
            checks.outside("gather y " + bad, x, () -> x.gather(11, bad, 9));
        }
        checks.same("no crowd came of it", x.count(4), 0);
    }

    private static void gatherEachNumberOfPeople() {
        for (int people = 1; people <= 9; people++) {
            LaneCrowds x = new LaneCrowds();
            checks.same("gather", x.gather(0, 0, people), 0);
            checks.same("people", x.crowd(0, 2), people);
            checks.same("people in all", x.count(5), people);
        }
    }

    private static void gatherJustBeyondWhatIsAllowed() {
        LaneCrowds x = new LaneCrowds();
        for (int people : new int[] {0, 10, -1, 11, -9, LOW, HIGH}) {
            checks.badArgument("gather " + people, x, () -> x.gather(0, 0, people));
        }
        checks.same("the next one is still number 0", x.gather(0, 0, 1), 0);
    }

    private static void gatherInAFreeCellOnly() {
        LaneCrowds x = new LaneCrowds();
        x.house(5, 5);
        checks.badState("gather in a house", x, () -> x.gather(5, 5, 1));
        x.house(5, 5);
        for (int b = 1; b <= 3; b++) {
            x.block(5, 5, b);
            checks.badState("gather on " + b, x, () -> x.gather(5, 5, 9));
        }
        x.block(5, 5, 0);
        checks.same("gather in the free cell", x.gather(5, 5, 1), 0);
    }

    private static void gatherWhereOthersAre() {
        LaneCrowds x = new LaneCrowds();
        x.patrol(5, 5, 1, 0);
        for (int i = 0; i < 6; i++) {
            checks.same("gather", x.gather(5, 5, 9), i);
        }
        checks.same("all are seen", x.guard(0, 3), 6);
    }

    private static void gatherSixAndNoSeventh() {
        LaneCrowds x = new LaneCrowds();
        for (int i = 0; i < 6; i++) {
            checks.same("gather", x.gather(i, i, 1 + i), i);
        }
        checks.badState("a seventh", x, () -> x.gather(7, 7, 1));
        checks.badState("a seventh where one is", x, () -> x.gather(0, 0, 1));
        checks.same("crowds", x.count(4), 6);
        checks.outside("its number", x, () -> x.crowd(6, 0));
    }

    private static void gatherNoSeventhWhenAllAreScattered() {
        LaneCrowds x = new LaneCrowds();
        for (int i = 0; i < 6; i++) {
            x.gather(3, 3, 1);
        }
        x.patrol(3, 3, 1, 0);
        checks.same("lost", x.pass(1), 6);
        checks.same("none is left", x.count(4), 0);
        checks.badState("a seventh", x, () -> x.gather(3, 3, 1));
        checks.same("number 5 is still there", x.crowd(5, 2), 0);
    }

    private static void crowdsAreNumberedInTheirOrder() {
        LaneCrowds x = new LaneCrowds();
        x.patrol(2, 2, 1, 0);
        x.gather(2, 2, 1);
        x.pass(1);
        checks.same("the first one is scattered", x.crowd(0, 2), 0);
        checks.same("the next one's number", x.gather(9, 8, 4), 1);
        checks.same("and the next one's", x.gather(9, 7, 5), 2);
        checks.same("people of 1", x.crowd(1, 2), 4);
        checks.same("people of 2", x.crowd(2, 2), 5);
    }

    private static void orderEachCode() {
        for (int code = 0; code < 12; code++) {
            LaneCrowds x = new LaneCrowds();
            x.gather(5, 5, 1);
            checks.same("order " + code, x.order(0, code), 1);
            checks.same("first order", x.crowd(0, 5), code);
        }
    }

    private static void orderJustBeyondWhatIsAllowed() {
        LaneCrowds x = new LaneCrowds();
        x.gather(5, 5, 1);
        for (int code : new int[] {-1, 12, 13, -12, 16, LOW, HIGH}) {
            checks.badArgument("order " + code, x, () -> x.order(0, code));
        }
        checks.same("orders", x.crowd(0, 4), 0);
    }

    private static void orderOfNoSuchCrowd() {
        LaneCrowds x = new LaneCrowds();
        for (int i = 0; i < 6; i++) {
            for (int crowd : new int[] {-1, i, i + 1, 6, LOW, HIGH}) {
                checks.outside("order of " + crowd + " of " + i, x, () -> x.order(crowd, 0));
            }
            x.gather(i, 0, 1);
            checks.same("order of the newest", x.order(i, 11), 1);
        }
    }

    private static void orderTwentyFourAndNoMore() {
        LaneCrowds x = new LaneCrowds();
        x.gather(5, 5, 1);
        for (int i = 1; i <= 24; i++) {
            checks.same("order", x.order(0, 11), i);
        }
        checks.badState("a 25th", x, () -> x.order(0, 11));
        x.pass(1);
        checks.same("a 24th again", x.order(0, 0), 24);
        checks.badState("a 25th again", x, () -> x.order(0, 0));
        x.pass(23);
        checks.same("one is left", x.crowd(0, 4), 1);
        checks.same("the last one", x.crowd(0, 5), 0);
        checks.same("all others were missed", x.crowd(0, 6), 24);
    }

    private static void orderOfAScatteredCrowd() {
        LaneCrowds x = Nights.scattered(4, 4);
        for (int code = 0; code < 12; code++) {
            int one = code;
            checks.badState("order " + code, x, () -> x.order(0, one));
        }
    }

    private static void ordersOfSixCrowdsAreTheirOwn() {
        LaneCrowds x = new LaneCrowds();
        for (int i = 0; i < 6; i++) {
            x.gather(i, 4, 1);
        }
        for (int i = 0; i < 24; i++) {
            for (int crowd = 0; crowd < 6; crowd++) {
                checks.same("order", x.order(crowd, (i + crowd) % 12), i + 1);
            }
        }
        for (int crowd = 0; crowd < 6; crowd++) {
            checks.same("first order", x.crowd(crowd, 5), crowd);
            checks.same("orders", x.crowd(crowd, 4), 24);
        }
    }

    private static void torchBurnsAtFirst() {
        LaneCrowds x = new LaneCrowds();
        for (int i = 0; i < 6; i++) {
            x.gather(0, 0, 1);
            checks.same("burns", x.crowd(i, 3), 1);
        }
        for (int i = 0; i < 6; i++) {
            checks.same("torch", Checks.number(x.torch(i)), 0);
            checks.same("is out", x.crowd(i, 3), 0);
        }
        checks.same("torch of the last one", Checks.number(x.torch(5)), 1);
        checks.same("the other one stays out", x.crowd(4, 3), 0);
    }

    private static void torchOfNoSuchCrowd() {
        LaneCrowds x = new LaneCrowds();
        for (int i = 0; i < 6; i++) {
            for (int crowd : new int[] {-1, i, 6, LOW, HIGH}) {
                checks.outside("torch " + crowd + " of " + i, x, () -> Checks.number(x.torch(crowd)));
            }
            x.gather(i, 0, 1);
        }
    }

    private static void torchOfAScatteredCrowd() {
        LaneCrowds x = Nights.scattered(4, 4);
        checks.badState("torch", x, () -> Checks.number(x.torch(0)));
        checks.same("it stays as it was", x.crowd(0, 3), 1);
        LaneCrowds y = new LaneCrowds();
        y.gather(4, 4, 1);
        y.torch(0);
        y.patrol(4, 4, 1, 1);
        y.pass(1);
        checks.same("scattered in the dark", y.crowd(0, 2), 0);
        checks.same("its torch is out", y.crowd(0, 3), 0);
        checks.badState("torch", y, () -> Checks.number(y.torch(0)));
    }

    private static void crowdOfNoSuchNumber() {
        for (int i = 0; i <= 6; i++) {
            LaneCrowds x = withCrowds(i);
            for (int what = 0; what < 8; what++) {
                int one = what;
                for (int crowd : new int[] {-1, i, 6, LOW, HIGH}) {
                    checks.outside("crowd(" + crowd + ", " + what + ")", x, () -> x.crowd(crowd, one));
                }
            }
        }
        LaneCrowds full = withCrowds(6);
        for (int what : new int[] {-1, 8, 9, LOW, HIGH}) {
            checks.outside("crowd(5, " + what + ")", full, () -> full.crowd(5, what));
            checks.outside("crowd(6, " + what + ")", full, () -> full.crowd(6, what));
        }
    }

    private static LaneCrowds withCrowds(int number) {
        LaneCrowds x = new LaneCrowds();
        for (int i = 0; i < number; i++) {
            x.gather(i, 0, 1);
        }
        return x;
    }

    private static void crowdWithoutOrders() {
        LaneCrowds x = new LaneCrowds();
        x.gather(5, 5, 3);
        x.pass(60);
        int[] due = {5, 5, 3, 1, 0, -1, 0, 0};
        for (int what = 0; what < 8; what++) {
            checks.same("crowd(0, " + what + ")", x.crowd(0, what), due[what]);
        }
    }

    private static void crowdWithTwentyFourOrders() {
        LaneCrowds x = new LaneCrowds();
        x.gather(5, 5, 3);
        for (int i = 0; i < 24; i++) {
            x.order(0, 8 + i % 4);
        }
        for (int i = 0; i < 24; i++) {
            checks.same("orders", x.crowd(0, 4), 24 - i);
            checks.same("first order", x.crowd(0, 5), 8 + i % 4);
            checks.same("missed", x.crowd(0, 6), i);
            x.pass(1);
        }
        checks.same("orders", x.crowd(0, 4), 0);
        checks.same("first order", x.crowd(0, 5), -1);
        x.pass(60);
        checks.same("missed", x.crowd(0, 6), 24);
    }

    private static void crowdSeenByNoneToThree() {
        LaneCrowds x = new LaneCrowds();
        x.gather(5, 5, 9);
        for (int i = 0; i < 3; i++) {
            checks.same("seen by", x.crowd(0, 7), i);
            x.patrol(5 + i, 5, 1, 0);
        }
        checks.same("seen by", x.crowd(0, 7), 3);
        x.torch(0);
        checks.same("seen by", x.crowd(0, 7), 2);
    }

    private static void crowdScatteredTellsItsLastCell() {
        LaneCrowds x = new LaneCrowds();
        x.gather(4, 4, 1);
        x.order(0, 2);
        x.order(0, 6);
        x.patrol(4, 6, 1, 0);
        x.pass(1);
        int[] due = {4, 5, 0, 1, 1, 6, 0, 0};
        for (int i = 0; i < 2; i++) {
            for (int what = 0; what < 8; what++) {
                checks.same("crowd(0, " + what + ")", x.crowd(0, what), due[what]);
            }
            x.pass(60);
        }
    }
}
