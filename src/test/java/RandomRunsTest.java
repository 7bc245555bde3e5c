import java.util.Random;
import java.util.function.LongSupplier;

/** All promises: long runs of mixed calls, good and bad, each compared with the model's answer. */
public final class RandomRunsTest {
    private static final int RUNS = 400;
    private static final int CALLS = 512;

    private static final Checks checks = new Checks();

    private final Random random;
    private final LaneCrowds x = new LaneCrowds();
    private final Model model = new Model();
    private final int houses;
    private final int steps;
    private int calls;

    private RandomRunsTest(int seed) {
        random = new Random(seed);
        houses = random.nextInt(60);
        steps = 1 + random.nextInt(4);
    }

    public static void main(String[] args) {
        for (int run = 0; run < RUNS; run++) {
            new RandomRunsTest(run).run();
        }
        checks.end();
    }

    private void run() {
        for (int i = 0; i < houses; i++) {
            build();
        }
        while (calls < CALLS) {
            call();
            if (calls % 8 == 0) {
                same("digest()", x::digest, model::digest);
            }
        }
    }

    private void build() {
        int at = random.nextInt(12);
        int y = random.nextInt(9);
        int b = random.nextInt(4);
        if (random.nextBoolean()) {
            same("house", () -> Checks.number(x.house(at, y)), () -> Checks.number(model.house(at, y)));
        } else {
            same("block", () -> x.block(at, y, b), () -> model.block(at, y, b));
        }
    }

    private int number(int low, int high) {
        int kind = random.nextInt(120);
        if (kind == 0) {
            return random.nextBoolean() ? low - 1 : high + 1;
        }
        if (kind == 1) {
            return random.nextInt();
        }
        return low + random.nextInt(high - low + 1);
    }

    /** Near a crowd as often as not, so that something comes of it. */
    private int near(int crowd, int axis, int high) {
        if (crowd < model.count(4) && random.nextInt(40) > 0) {
            return model.crowd(crowd, axis) + random.nextInt(5) - 2;
        }
        return number(0, high);
    }

    private void call() {
        int crowd = number(0, 5);
        int patrol = number(0, 2);
        int close = random.nextInt(12);
        int at = near(close, 0, 11);
        int y = near(close, 1, 8);
        switch (random.nextInt(26)) {
            case 0: change(at, y); break;
            case 1: gatherOrPatrol(at, y); break;
            case 2: case 3: case 4: case 5: case 6: case 7: case 8: orders(); break;
            case 9: same("torch", () -> Checks.number(x.torch(crowd)), () -> Checks.number(model.torch(crowd))); break;
            case 10: case 11: case 12: case 13: case 14: passing(); break;
            case 15: foresight(crowd); break;
            case 16: case 17: tellCrowd(crowd); break;
            case 18: case 19: tellGuard(patrol, crowd); break;
            case 20: same("cell", () -> x.cell(at, y), () -> model.cell(at, y)); break;
            case 21: way(at, y); break;
            case 22: same("shuts()", x::shuts, model::shuts); break;
            case 23: checks.sameDouble("mean()", x.mean(), model.mean()); calls++; break;
            case 24: int what = number(0, 7); same("count", () -> x.count(what), () -> model.count(what)); break;
            default: same("digest()", x::digest, model::digest); break;
        }
    }

    private void change(int at, int y) {
        int b = number(0, 3);
        if (random.nextInt(3) == 0) {
            same("house", () -> Checks.number(x.house(at, y)), () -> Checks.number(model.house(at, y)));
        } else {
            same("block", () -> x.block(at, y, b), () -> model.block(at, y, b));
        }
    }

    private void gatherOrPatrol(int at, int y) {
        int people = number(1, 9);
        int length = number(1, 12);
        int most = length < 1 || length > 12 ? 3 : (1 << 2 * length) - 1;
        int round = number(0, most);
        if (random.nextInt(3) > 0) {
            same("gather", () -> x.gather(at, y, people), () -> model.gather(at, y, people));
        } else {
            same("patrol", () -> x.patrol(at, y, length, round), () -> model.patrol(at, y, length, round));
        }
    }

    private void orders() {
        int crowd = number(0, 5);
        int many = random.nextInt(12) == 0 ? 26 : 1 + random.nextInt(2);
        for (int i = 0; i < many; i++) {
            int code = number(0, 11);
            same("order", () -> x.order(crowd, code), () -> model.order(crowd, code));
        }
    }

    private void passing() {
        int many = random.nextInt(40) == 0 ? number(1, 60) : 1 + random.nextInt(steps);
        same("pass " + many, () -> x.pass(many), () -> model.pass(many));
    }

    private void foresight(int crowd) {
        int many = random.nextInt(4) == 0 ? number(1, 60) : number(1, 8);
        int what = number(0, 2);
        same("foresee " + what, () -> x.foresee(many, what), () -> model.foresee(many, what));
        same("advise", () -> x.advise(crowd), () -> model.advise(crowd));
    }

    private void tellCrowd(int crowd) {
        int what = number(0, 7);
        same("crowd " + what, () -> x.crowd(crowd, what), () -> model.crowd(crowd, what));
    }

    private void tellGuard(int patrol, int crowd) {
        int what = number(0, 3);
        same("guard " + what, () -> x.guard(patrol, what), () -> model.guard(patrol, what));
        same("sees", () -> Checks.number(x.sees(patrol, crowd)), () -> Checks.number(model.sees(patrol, crowd)));
    }

    private void way(int at, int y) {
        int toX = number(0, 11);
        int toY = number(0, 8);
        same("way", () -> x.way(at, y, toX, toY), () -> model.way(at, y, toX, toY));
    }

    private void same(String call, LongSupplier made, LongSupplier due) {
        calls++;
        String got = answer(made);
        String want = answer(due);
        checks.holds(call + " answering " + got + " where " + want + " is due", got.equals(want));
    }

    private static String answer(LongSupplier made) {
        try {
            return Long.toString(made.getAsLong());
        } catch (RuntimeException thrown) {
            return "throws." + thrown.getClass().getSimpleName();
        }
    }
}
