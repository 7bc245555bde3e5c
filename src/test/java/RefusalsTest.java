import java.util.ArrayList;
import java.util.List;
import java.util.function.Supplier;

/**
 * All exceptions of all calls: each one that is named, that of several the one named first is thrown,
 * and that nothing has changed behind it, neither in what is told now nor in what comes later.
 */
public final class RefusalsTest {
    private static final int LOW = Integer.MIN_VALUE;
    private static final int HIGH = Integer.MAX_VALUE;
    private static final int[] XS = {0, 11, 6, -1, 12, LOW, HIGH};
    private static final int[] YS = {0, 8, 4, -1, 9, LOW, HIGH};
    /** A house, barricades, a crowd, a patrol, a scattered crowd's last cell, a free cell; three of them outside. */
    private static final int[][] PLACES = {{6, 0}, {3, 3}, {1, 1}, {9, 4}, {8, 4}, {10, 7}, {-1, 4}, {6, 9}, {12, 0}};

    private static final Checks checks = new Checks();

    /** A call that may throw. */
    private interface Call {
        long on(LaneCrowds x);
    }

    public static void main(String[] args) {
        List<Supplier<LaneCrowds>> nights = new ArrayList<>();
        nights.add(() -> new LaneCrowds());
        nights.add(() -> night(false));
        nights.add(() -> night(true));
        for (Supplier<LaneCrowds> night : nights) {
            cells(night);
            people(night);
            tellings(night);
            steps(night);
        }
        checks.end();
    }

    /** Crowd 0 has 24 orders, crowd 2 is scattered; there is room for one more crowd and patrol, or for none. */
    private static LaneCrowds night(boolean full) {
        LaneCrowds x = new LaneCrowds();
        x.house(6, 0);
        x.house(11, 8);
        x.block(3, 3, 1);
        x.block(4, 3, 3);
        x.gather(1, 1, 9);
        x.gather(2, 1, 2);
        x.gather(8, 4, 1);
        x.patrol(8, 4, 3, 1 + 4 * 2 + 16 * 3);
        x.pass(1);
        x.gather(8, 7, 5);
        x.gather(10, 1, 4);
        x.patrol(10, 4, 12, 7654321);
        for (int i = 0; i < 24; i++) {
            x.order(0, (5 * i + 1) % 12);
        }
        x.order(1, 4);
        x.order(4, 2);
        x.torch(3);
        if (full) {
            x.gather(10, 1, 7);
            x.patrol(0, 8, 2, 9);
        }
        return x;
    }

    private static void cells(Supplier<LaneCrowds> night) {
        for (int[] place : PLACES) {
            int x = place[0];
            int y = place[1];
            boolean in = inside(x, y);
            boolean somebody = in && isTaken(night.get(), x, y);
            int there = in ? night.get().cell(x, y) : 0;
            refused("house", night, n -> Checks.number(n.house(x, y)), first(!in, false, there > 0 || somebody));
            refused("cell", night, n -> n.cell(x, y), first(!in, false, false));
            for (int b : new int[] {0, 3, -1, 4, LOW, HIGH}) {
                refused("block", night, n -> n.block(x, y, b), first(!in, b < 0 || b > 3, there < 0 || somebody));
            }
            for (int people : new int[] {1, 9, 0, 10, LOW, HIGH}) {
                boolean bad = people < 1 || people > 9;
                refused("gather", night, n -> n.gather(x, y, people),
                    first(!in, bad, there != 0 || crowds(night.get()) == 6));
            }
            for (int length : new int[] {1, 12, 0, 13, LOW, HIGH}) {
                for (int round : new int[] {0, 3, 4, 16777215, 16777216, -1, LOW, HIGH}) {
                    boolean bad = length < 1 || length > 12 || round < 0 || round > (length == 1 ? 3 : 16777215);
                    refused("patrol", night, n -> n.patrol(x, y, length, round),
                        first(!in, bad, there != 0 || night.get().count(6) == 3));
                }
            }
        }
        for (int x : XS) {
            for (int y : YS) {
                refused("way from", night, n -> n.way(x, y, 5, 5), first(!inside(x, y), false, false));
                refused("way to", night, n -> n.way(5, 5, x, y), first(!inside(x, y), false, false));
            }
        }
    }

    private static void people(Supplier<LaneCrowds> night) {
        int crowds = crowds(night.get());
        int patrols = night.get().count(6);
        for (int i : new int[] {-1, 0, 1, 2, 3, 4, 5, 6, 7, LOW, HIGH}) {
            boolean none = i < 0 || i >= crowds;
            boolean noGuard = i < 0 || i >= patrols;
            boolean scattered = !none && i == 2;
            refused("torch", night, n -> Checks.number(n.torch(i)), first(none, false, scattered));
            refused("advise", night, n -> n.advise(i), first(none, false, false));
            for (int code : new int[] {0, 11, -1, 12, LOW, HIGH}) {
                refused("order", night, n -> n.order(i, code), first(none, code < 0 || code > 11, scattered || i == 0));
            }
            for (int what : new int[] {0, 3, 4, 7, 8, -1, LOW, HIGH}) {
                refused("crowd", night, n -> n.crowd(i, what), first(none || what < 0 || what > 7, false, false));
                refused("guard", night, n -> n.guard(i, what), first(noGuard || what < 0 || what > 3, false, false));
            }
            for (int k : new int[] {-1, 0, 2, 3, 5, 6, LOW, HIGH}) {
                refused("sees", night, n -> Checks.number(n.sees(i, k)), first(noGuard || k < 0 || k >= crowds, false, false));
            }
        }
    }

    private static void tellings(Supplier<LaneCrowds> night) {
        for (int what : new int[] {0, 7, 8, -1, LOW, HIGH}) {
            refused("count", night, n -> n.count(what), first(what < 0 || what > 7, false, false));
        }
        refused("shuts", night, n -> n.shuts(), null);
        refused("mean", night, n -> (long) n.mean(), null);
        refused("digest", night, n -> n.digest(), null);
    }

    private static void steps(Supplier<LaneCrowds> night) {
        for (int steps : new int[] {1, 60, 0, 61, -1, LOW, HIGH}) {
            boolean bad = steps < 1 || steps > 60;
            refused("pass", night, n -> n.pass(steps), first(false, bad, false));
            for (int what : new int[] {0, 2, 3, -1, LOW, HIGH}) {
                Class<?> due = bad ? IllegalArgumentException.class : first(what < 0 || what > 2, false, false);
                refused("foresee", night, n -> n.foresee(steps, what), due);
            }
        }
    }

    private static boolean inside(int x, int y) {
        return x >= 0 && x <= 11 && y >= 0 && y <= 8;
    }

    private static int crowds(LaneCrowds x) {
        int number = 0;
        while (number < 6 && !throwsIndex(x, number)) {
            number++;
        }
        return number;
    }

    private static boolean throwsIndex(LaneCrowds x, int crowd) {
        try {
            x.crowd(crowd, 0);
            return false;
        } catch (IndexOutOfBoundsException none) {
            return true;
        }
    }

    private static boolean isTaken(LaneCrowds x, int atX, int atY) {
        boolean taken = false;
        for (int i = 0; i < crowds(x); i++) {
            taken |= x.crowd(i, 2) > 0 && x.crowd(i, 0) == atX && x.crowd(i, 1) == atY;
        }
        for (int i = 0; i < x.count(6); i++) {
            taken |= x.guard(i, 0) == atX && x.guard(i, 1) == atY;
        }
        return taken;
    }

    /** The one that is named first: all calls but foresee name them in this order. */
    private static Class<?> first(boolean index, boolean argument, boolean state) {
        return index ? IndexOutOfBoundsException.class : argument ? IllegalArgumentException.class
            : state ? IllegalStateException.class : null;
    }

    /** Where one is due, a twin that hasn't seen the call must tell the same from then on. */
    private static void refused(String name, Supplier<LaneCrowds> night, Call call, Class<?> due) {
        LaneCrowds x = night.get();
        Class<?> got = null;
        try {
            call.on(x);
        } catch (RuntimeException thrown) {
            got = thrown.getClass();
        }
        checks.holds(name + " throwing " + due + " (it threw " + got + ")", got == due);
        if (due != null) {
            goOnTheSame(name, x, night.get());
        }
    }

    private static void goOnTheSame(String name, LaneCrowds x, LaneCrowds twin) {
        for (int i = 0; i < 14; i++) {
            checks.same("digest() behind a refused " + name, x.digest(), twin.digest());
            checks.same("shuts() behind a refused " + name, x.shuts(), twin.shuts());
            checks.same("foresee() behind a refused " + name, x.foresee(60, 0), twin.foresee(60, 0));
            checks.same("pass behind a refused " + name, x.pass(1), twin.pass(1));
        }
        checks.same("crowds behind a refused " + name, crowds(x), crowds(twin));
        if (crowds(x) < 6) {
            checks.same("the next crowd behind a refused " + name, x.gather(5, 7, 9), twin.gather(5, 7, 9));
        }
        if (x.count(6) < 3) {
            checks.same("the next patrol behind a refused " + name, x.patrol(5, 8, 12, 1234567), twin.patrol(5, 8, 12, 1234567));
        }
        for (int i = 0; i < 12; i++) {
            checks.same("pass behind a refused " + name, x.pass(1), twin.pass(1));
            checks.same("digest() behind a refused " + name, x.digest(), twin.digest());
        }
    }
}
