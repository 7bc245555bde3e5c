import java.math.BigInteger;

/** The edges of promises 12, 18 and 19, a sentence of the document at a time: count, mean, digest. */
public final class EdgesOfTellingTest {
    private static final int LOW = Integer.MIN_VALUE;
    private static final int HIGH = Integer.MAX_VALUE;

    private static final Checks checks = new Checks();

    public static void main(String[] args) {
        countOfNoSuchNumber();
        countInAnEmptyQuarter();
        countInAFullQuarter();
        countOfHousesAndBarricades();
        countOfFreeCellsWhereSomebodyIs();
        countOfCrowdsThatAreNotScattered();
        countOfOrdersThatWereMissedInAll();
        meanOfNoCrowds();
        meanOfScatteredCrowdsAlone();
        meanOfCrowdsThatAreNotScattered();
        meanOfOneToNine();
        meanThatIsNoWholeNumber();
        digestOfAnEmptyQuarterByHand();
        digestWrapsAround();
        digestTellsCellsByTwelveTimesYAndX();
        digestTellsEachNumber();
        digestTellsOrdersBehindTheirCrowd();
        digestOfAScatteredCrowd();
        digestOfAFullQuarter();
        digestChangesNothing();
        checks.end();
    }

    private static void countOfNoSuchNumber() {
        for (LaneCrowds x : new LaneCrowds[] {new LaneCrowds(), full()}) {
            for (int what : new int[] {-1, 8, 9, -8, LOW, HIGH}) {
                checks.outside("count(" + what + ")", x, () -> x.count(what));
            }
        }
    }

    private static void counts(LaneCrowds x, int... due) {
        for (int what = 0; what < 8; what++) {
            checks.same("count(" + what + ")", x.count(what), due[what]);
        }
    }

    private static void countInAnEmptyQuarter() {
        counts(new LaneCrowds(), 0, 0, 0, 108, 0, 0, 0, 0);
    }

    private static LaneCrowds full() {
        LaneCrowds x = new LaneCrowds();
        for (int i = 0; i < 6; i++) {
            x.gather(2 * i, 0, 9);
            for (int k = 0; k < 24; k++) {
                x.order(i, (i + k) % 12);
            }
        }
        for (int i = 0; i < 3; i++) {
            x.patrol(i, 8, 12, 16777215 - i);
        }
        return x;
    }

    private static void countInAFullQuarter() {
        counts(full(), 0, 0, 0, 108, 6, 54, 3, 0);
    }

    private static void countOfHousesAndBarricades() {
        LaneCrowds x = new LaneCrowds();
        for (int i = 0; i < 108; i++) {
            if (i % 2 == 0) {
                x.house(i % 12, i / 12);
            } else {
                x.block(i % 12, i / 12, 3);
            }
        }
        counts(x, 0, 54, 162, 0, 0, 0, 0, 0);
        x.house(0, 0);
        counts(x, 0, 53, 162, 1, 0, 0, 0, 0);
        x.block(11, 8, 0);
        counts(x, 0, 53, 159, 2, 0, 0, 0, 0);
    }

    private static void countOfFreeCellsWhereSomebodyIs() {
        LaneCrowds x = new LaneCrowds();
        x.gather(0, 0, 1);
        x.gather(0, 0, 1);
        x.patrol(11, 8, 1, 0);
        checks.same("free cells", x.count(3), 108);
    }

    private static void countOfCrowdsThatAreNotScattered() {
        LaneCrowds x = new LaneCrowds();
        for (int i = 0; i < 6; i++) {
            x.gather(0, 0, i + 1);
        }
        x.patrol(0, 0, 1, 0);
        for (int i = 0; i <= 7; i++) {
            int left = Math.max(6 - i, 0);
            counts(x, i, 0, 0, 108, left, left * (left + 1) / 2, 1, 0);
            x.pass(1);
        }
    }

    /** Those of a crowd that is scattered by now, too. */
    private static void countOfOrdersThatWereMissedInAll() {
        LaneCrowds x = new LaneCrowds();
        x.gather(0, 0, 1);
        x.gather(5, 5, 9);
        x.torch(1);
        for (int i = 0; i < 3; i++) {
            x.order(0, 3);
            x.order(1, 8);
        }
        x.patrol(0, 0, 1, 0);
        int[] due = {0, 2, 3, 4, 4};
        for (int i = 0; i < due.length; i++) {
            checks.same("missed in all", x.count(7), due[i]);
            x.pass(1);
        }
        checks.same("of the scattered one", x.crowd(0, 6), 1);
    }

    private static void meanOfNoCrowds() {
        LaneCrowds x = new LaneCrowds();
        checks.sameDouble("mean()", x.mean(), 0.0);
        x.patrol(0, 0, 1, 0);
        checks.sameDouble("mean() with a patrol", x.mean(), 0.0);
        checks.holds("it is no number below 0", 1.0 / x.mean() > 0.0);
    }

    private static void meanOfScatteredCrowdsAlone() {
        LaneCrowds x = new LaneCrowds();
        for (int i = 0; i < 6; i++) {
            x.gather(0, 0, 1);
        }
        x.patrol(0, 0, 1, 0);
        checks.sameDouble("mean()", x.mean(), 1.0);
        x.pass(1);
        checks.sameDouble("mean() of scattered ones", x.mean(), 0.0);
    }

    private static void meanOfCrowdsThatAreNotScattered() {
        LaneCrowds x = new LaneCrowds();
        x.gather(0, 0, 1);
        x.gather(0, 0, 3);
        x.gather(5, 5, 9);
        x.patrol(0, 0, 1, 0);
        checks.sameDouble("mean()", x.mean(), 13.0 / 3.0);
        x.pass(1);
        checks.sameDouble("mean() of two", x.mean(), 5.5);
        x.pass(2);
        checks.sameDouble("mean() of one", x.mean(), 9.0);
    }

    private static void meanOfOneToNine() {
        for (int people = 1; people <= 9; people++) {
            LaneCrowds x = new LaneCrowds();
            for (int i = 1; i <= 6; i++) {
                x.gather(0, 0, people);
                checks.sameDouble("mean() of " + i, x.mean(), people);
            }
        }
    }

    private static void meanThatIsNoWholeNumber() {
        LaneCrowds x = new LaneCrowds();
        int[] people = {1, 2, 2, 9, 8, 9};
        double sum = 0.0;
        for (int i = 0; i < 6; i++) {
            x.gather(0, 0, people[i]);
            sum += people[i];
            checks.sameDouble("mean()", x.mean(), sum / (i + 1));
        }
    }

    /** 997, three noughts, 108, then 112 noughts, wrapped by whole numbers of any size. */
    private static void digestOfAnEmptyQuarterByHand() {
        BigInteger by = BigInteger.valueOf(31);
        BigInteger due = BigInteger.valueOf(997).multiply(by.pow(4)).add(BigInteger.valueOf(108)).multiply(by.pow(112));
        checks.same("digest()", new LaneCrowds().digest(), due.longValue());
        checks.holds("it wraps around", due.bitLength() > 500);
    }

    /** Whatever is the last number stands at the end unwrapped, while the first ones are wrapped often. */
    private static void digestWrapsAround() {
        boolean below = false;
        boolean above = false;
        for (int b = 0; b < 108; b++) {
            LaneCrowds x = new LaneCrowds();
            x.block(b % 12, b / 12, 3);
            BigInteger d = BigInteger.valueOf(997);
            for (int what = 0; what < 8; what++) {
                d = d.multiply(BigInteger.valueOf(31)).add(BigInteger.valueOf(x.count(what)));
            }
            for (int i = 0; i < 108; i++) {
                d = d.multiply(BigInteger.valueOf(31)).add(BigInteger.valueOf(i == b ? 3 : 0));
            }
            checks.same("digest() with a barricade in " + b, x.digest(), d.longValue());
            below |= x.digest() < 0;
            above |= x.digest() > 0;
        }
        checks.holds("digests below and above 0", below && above);
    }

    private static void digestTellsCellsByTwelveTimesYAndX() {
        for (int i = 0; i + 1 < 108; i++) {
            LaneCrowds x = new LaneCrowds();
            LaneCrowds y = new LaneCrowds();
            x.block(i % 12, i / 12, 1);
            y.block((i + 1) % 12, (i + 1) / 12, 1);
            long power = 1;
            for (int k = i + 1; k < 107; k++) {
                power *= 31;
            }
            checks.same("one cell farther", x.digest() - y.digest(), 31 * power - power);
        }
    }

    private static void digestTellsEachNumber() {
        LaneCrowds x = full();
        long d = x.digest();
        x.torch(5);
        checks.holds("torch", x.digest() != d);
        d = x.digest();
        x.pass(1);
        checks.holds("pass", x.digest() != d);
        d = x.digest();
        x.order(0, 0);
        checks.holds("order", x.digest() != d);
        d = x.digest();
        x.house(6, 4);
        checks.holds("house", x.digest() != d);
        d = x.digest();
        x.block(7, 4, 1);
        checks.holds("block", x.digest() != d);
    }

    private static void digestTellsOrdersBehindTheirCrowd() {
        LaneCrowds x = new LaneCrowds();
        x.gather(0, 0, 9);
        x.gather(1, 0, 8);
        x.order(0, 11);
        x.order(0, 7);
        x.order(1, 8);
        x.patrol(11, 8, 2, 4 * 3 + 2);
        int[] numbers = {0, 0, 0, 108, 2, 17, 1, 0};
        int[] people = {0, 0, 9, 1, 2, 11, 0, 0, 11, 7, 1, 0, 8, 1, 1, 8, 0, 0, 8, 11, 8, 2, 0};
        checks.same("digest()", x.digest(), digest(numbers, people));
        x.pass(1);
        int[] then = {1, 0, 0, 108, 2, 17, 1, 2};
        int[] peopleThen = {0, 0, 9, 1, 1, 7, 1, 0, 7, 1, 0, 8, 1, 0, -1, 1, 0, 11, 8, 3, 0};
        checks.same("digest() behind a step", x.digest(), digest(then, peopleThen));
    }

    private static long digest(int[] counts, int[] people) {
        long d = 997;
        for (int number : counts) {
            d = d * 31 + number;
        }
        for (int i = 0; i < 108; i++) {
            d = d * 31;
        }
        for (int number : people) {
            d = d * 31 + number;
        }
        return d;
    }

    private static void digestOfAScatteredCrowd() {
        LaneCrowds x = new LaneCrowds();
        x.gather(3, 2, 1);
        x.torch(0);
        x.order(0, 3);
        x.order(0, 6);
        x.order(0, 9);
        x.patrol(2, 2, 1, 1);
        x.pass(1);
        int[] numbers = {1, 0, 0, 108, 0, 0, 1, 0};
        int[] people = {2, 2, 0, 0, 2, 6, 0, 0, 6, 9, 3, 2, 1, 0};
        checks.same("digest()", x.digest(), digest(numbers, people));
    }

    private static void digestOfAFullQuarter() {
        LaneCrowds x = full();
        int[] numbers = {0, 0, 0, 108, 6, 54, 3, 0};
        int[] people = new int[6 * 32 + 3 * 4];
        int at = 0;
        for (int i = 0; i < 6; i++) {
            for (int number : new int[] {2 * i, 0, 9, 1, 24, i, 0, 0}) {
                people[at++] = number;
            }
            for (int k = 0; k < 24; k++) {
                people[at++] = (i + k) % 12;
            }
        }
        for (int i = 0; i < 3; i++) {
            for (int number : new int[] {i, 8, 3 - i, 0}) {
                people[at++] = number;
            }
        }
        checks.same("digest()", x.digest(), digest(numbers, people));
    }

    private static void digestChangesNothing() {
        LaneCrowds x = full();
        long d = x.digest();
        for (int i = 0; i < 20; i++) {
            checks.same("digest()", x.digest(), d);
        }
        LaneCrowds y = full();
        y.pass(60);
        x.pass(60);
        checks.same("digest() behind 60 steps", x.digest(), y.digest());
    }
}
