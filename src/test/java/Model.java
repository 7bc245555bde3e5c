import java.util.ArrayDeque;
import java.util.ArrayList;
import java.util.Arrays;
import java.util.Deque;
import java.util.List;

/**
 * The document once more, written without regard to the class, for tests to compare with:
 * people stand in lists, a look goes cell by cell, and shuts is the greatest flow.
 */
final class Model {
    private static final int[] DX = {0, 1, 0, -1};
    private static final int[] DY = {-1, 0, 1, 0};

    private static final class Gang {
        int x, y, people, missed;
        boolean torch = true;
        List<Integer> orders = new ArrayList<>();
    }

    private static final class Watch {
        int x, y, next;
        int[] round;
    }

    private final int[][] cells = new int[12][9];
    private final List<Gang> gangs = new ArrayList<>();
    private final List<Watch> watches = new ArrayList<>();
    private int step;

    private Model copy() {
        Model other = new Model();
        for (int x = 0; x < 12; x++) {
            other.cells[x] = cells[x].clone();
        }
        for (Gang gang : gangs) {
            Gang same = new Gang();
            same.x = gang.x;
            same.y = gang.y;
            same.people = gang.people;
            same.missed = gang.missed;
            same.torch = gang.torch;
            same.orders = new ArrayList<>(gang.orders);
            other.gangs.add(same);
        }
        for (Watch watch : watches) {
            Watch same = new Watch();
            same.x = watch.x;
            same.y = watch.y;
            same.next = watch.next;
            same.round = watch.round;
            other.watches.add(same);
        }
        other.step = step;
        return other;
    }

    private static boolean in(int x, int y) {
        return x >= 0 && x <= 11 && y >= 0 && y <= 8;
    }

    private boolean free(int x, int y) {
        return in(x, y) && cells[x][y] == 0;
    }

    private boolean occupied(int x, int y) {
        return gangs.stream().anyMatch(g -> g.people > 0 && g.x == x && g.y == y)
            || watches.stream().anyMatch(w -> w.x == x && w.y == y);
    }

    private static void index(boolean good) {
        if (!good) {
            throw new IndexOutOfBoundsException();
        }
    }

    private static void argument(boolean good) {
        if (!good) {
            throw new IllegalArgumentException();
        }
    }

    private static void state(boolean good) {
        if (!good) {
            throw new IllegalStateException();
        }
    }

    private Gang gang(int crowd) {
        index(crowd >= 0 && crowd < gangs.size());
        return gangs.get(crowd);
    }

    private Watch watch(int patrol) {
        index(patrol >= 0 && patrol < watches.size());
        return watches.get(patrol);
    }

    boolean house(int x, int y) {
        index(in(x, y));
        state(cells[x][y] <= 0 && !occupied(x, y));
        cells[x][y] = cells[x][y] == 0 ? -1 : 0;
        return cells[x][y] == -1;
    }

    int block(int x, int y, int barricades) {
        index(in(x, y));
        argument(barricades >= 0 && barricades <= 3);
        state(cells[x][y] != -1 && !occupied(x, y));
        int had = cells[x][y];
        cells[x][y] = barricades;
        return had;
    }

    int cell(int x, int y) {
        index(in(x, y));
        return cells[x][y];
    }

    int gather(int x, int y, int people) {
        index(in(x, y));
        argument(people >= 1 && people <= 9);
        state(gangs.size() < 6 && free(x, y));
        Gang gang = new Gang();
        gang.x = x;
        gang.y = y;
        gang.people = people;
        gangs.add(gang);
        return gangs.size() - 1;
    }

    int order(int crowd, int code) {
        Gang gang = gang(crowd);
        argument(code >= 0 && code <= 11);
        state(gang.people > 0 && gang.orders.size() < 24);
        gang.orders.add(code);
        return gang.orders.size();
    }

    boolean torch(int crowd) {
        Gang gang = gang(crowd);
        state(gang.people > 0);
        gang.torch = !gang.torch;
        return gang.torch;
    }

    int patrol(int x, int y, int length, int round) {
        index(in(x, y));
        argument(length >= 1 && length <= 12 && round >= 0 && round < (long) Math.pow(4, length));
        state(watches.size() < 3 && free(x, y));
        Watch watch = new Watch();
        watch.x = x;
        watch.y = y;
        watch.round = new int[length];
        int rest = round;
        for (int i = 0; i < length; i++) {
            watch.round[i] = rest % 4;
            rest /= 4;
        }
        watches.add(watch);
        return watches.size() - 1;
    }

    int crowd(int crowd, int what) {
        Gang gang = gang(crowd);
        index(what >= 0 && what <= 7);
        int[] all = {gang.x, gang.y, gang.people, gang.torch ? 1 : 0, gang.orders.size(),
            gang.orders.isEmpty() ? -1 : gang.orders.get(0), gang.missed,
            (int) watches.stream().filter(w -> seen(w, gang)).count()};
        return all[what];
    }

    int guard(int patrol, int what) {
        Watch watch = watch(patrol);
        index(what >= 0 && what <= 3);
        int[] all = {watch.x, watch.y, watch.round[watch.next],
            (int) gangs.stream().filter(g -> seen(watch, g)).count()};
        return all[what];
    }

    boolean sees(int patrol, int crowd) {
        Watch watch = watch(patrol);
        return seen(watch, gang(crowd));
    }

    private boolean seen(Watch watch, Gang gang) {
        if (gang.people == 0) {
            return false;
        }
        if (watch.x == gang.x && watch.y == gang.y) {
            return true;
        }
        int sight = gang.torch ? 4 : 1;
        for (int d = 0; d < 4; d++) {
            for (int far = 1; far <= sight && free(watch.x + far * DX[d], watch.y + far * DY[d]); far++) {
                if (watch.x + far * DX[d] == gang.x && watch.y + far * DY[d] == gang.y) {
                    return true;
                }
            }
        }
        return false;
    }

    int count(int what) {
        index(what >= 0 && what <= 7);
        int[] all = {step, 0, 0, 0, 0, 0, watches.size(), 0};
        for (int[] column : cells) {
            for (int cell : column) {
                all[1] += cell == -1 ? 1 : 0;
                all[2] += cell > 0 ? cell : 0;
                all[3] += cell == 0 ? 1 : 0;
            }
        }
        for (Gang gang : gangs) {
            all[4] += gang.people > 0 ? 1 : 0;
            all[5] += gang.people;
            all[7] += gang.missed;
        }
        return all[what];
    }

    int way(int x, int y, int toX, int toY) {
        index(in(x, y) && in(toX, toY));
        if (!free(x, y) || !free(toX, toY)) {
            return -1;
        }
        int[][] far = new int[12][9];
        Arrays.stream(far).forEach(column -> Arrays.fill(column, 1000));
        far[x][y] = 0;
        for (int round = 0; round < 108; round++) {
            for (int i = 0; i < 108; i++) {
                for (int d = 0; d < 4; d++) {
                    int fromX = i % 12 + DX[d];
                    int fromY = i / 12 + DY[d];
                    if (free(i % 12, i / 12) && free(fromX, fromY)) {
                        far[i % 12][i / 12] = Math.min(far[i % 12][i / 12], far[fromX][fromY] + 1);
                    }
                }
            }
        }
        return far[toX][toY] == 1000 ? -1 : far[toX][toY];
    }

    /** As many ways without a common cell as there are: nodes 2i (into a cell) and 2i + 1 (out of it). */
    int shuts() {
        boolean[][] room = new boolean[218][218];
        for (int i = 0; i < 108; i++) {
            if (!free(i % 12, i / 12)) {
                continue;
            }
            room[2 * i][2 * i + 1] = true;
            if (i % 12 == 0) {
                room[216][2 * i] = true;
            }
            if (i % 12 == 11) {
                room[2 * i + 1][217] = true;
            }
            for (int d = 0; d < 4; d++) {
                if (free(i % 12 + DX[d], i / 12 + DY[d])) {
                    room[2 * i + 1][2 * (i + DX[d] + 12 * DY[d])] = true;
                }
            }
        }
        int flow = 0;
        while (widened(room)) {
            flow++;
        }
        return flow;
    }

    private static boolean widened(boolean[][] room) {
        int[] from = new int[218];
        Arrays.fill(from, -1);
        from[216] = 216;
        Deque<Integer> line = new ArrayDeque<>(List.of(216));
        while (!line.isEmpty() && from[217] == -1) {
            int node = line.poll();
            for (int to = 0; to < 218; to++) {
                if (room[node][to] && from[to] == -1) {
                    from[to] = node;
                    line.add(to);
                }
            }
        }
        if (from[217] == -1) {
            return false;
        }
        for (int node = 217; node != 216; node = from[node]) {
            room[from[node]][node] = false;
            room[node][from[node]] = true;
        }
        return true;
    }

    int pass(int steps) {
        argument(steps >= 1 && steps <= 60);
        int before = count(5);
        for (int i = 0; i < steps; i++) {
            oneStep();
        }
        return before - count(5);
    }

    private void oneStep() {
        for (Gang gang : gangs) {
            if (gang.people > 0 && !gang.orders.isEmpty() && !carriedOut(gang, gang.orders.remove(0))) {
                gang.missed++;
            }
        }
        for (Watch watch : watches) {
            int d = watch.round[watch.next];
            if (free(watch.x + DX[d], watch.y + DY[d])) {
                watch.x += DX[d];
                watch.y += DY[d];
            }
            watch.next = (watch.next + 1) % watch.round.length;
        }
        int[] lost = gangs.stream().mapToInt(g -> (int) watches.stream().filter(w -> seen(w, g)).count()).toArray();
        for (int i = 0; i < lost.length; i++) {
            gangs.get(i).people = Math.max(0, gangs.get(i).people - lost[i]);
        }
        step++;
    }

    private boolean carriedOut(Gang gang, int code) {
        int d = code % 4;
        int x = gang.x + DX[d];
        int y = gang.y + DY[d];
        if (!in(x, y) || cells[x][y] == -1) {
            return false;
        }
        int b = cells[x][y];
        if (code >= 8) {
            cells[x][y] = Math.max(0, b - 1);
            return b > 0;
        }
        if (code >= 4) {
            boolean can = gang.people >= 3 && b < 3 && !occupied(x, y);
            cells[x][y] += can ? 1 : 0;
            return can;
        }
        if (b > 0) {
            int behindX = x + DX[d];
            int behindY = y + DY[d];
            if (gang.people < 2 * b || !in(behindX, behindY) || cells[behindX][behindY] == -1
                    || cells[behindX][behindY] > 3 - b || occupied(behindX, behindY)) {
                return false;
            }
            cells[behindX][behindY] += b;
            cells[x][y] = 0;
        }
        gang.x = x;
        gang.y = y;
        return true;
    }

    int foresee(int steps, int what) {
        argument(steps >= 1 && steps <= 60);
        index(what >= 0 && what <= 2);
        Model then = copy();
        then.pass(steps);
        int[] all = {then.count(5), then.count(2), then.shuts()};
        return all[what];
    }

    int advise(int crowd) {
        if (gang(crowd).people == 0) {
            return -1;
        }
        int[] shuts = new int[12];
        for (int code = 0; code < 12; code++) {
            Model then = copy();
            then.gangs.get(crowd).orders.clear();
            then.gangs.get(crowd).orders.add(code);
            then.oneStep();
            shuts[code] = then.shuts();
        }
        int least = Arrays.stream(shuts).min().getAsInt();
        int best = 0;
        while (shuts[best] != least) {
            best++;
        }
        return best;
    }

    double mean() {
        return gangs.stream().filter(g -> g.people > 0).mapToInt(g -> g.people).average().orElse(0);
    }

    long digest() {
        List<Integer> all = new ArrayList<>();
        for (int what = 0; what < 8; what++) {
            all.add(count(what));
        }
        for (int i = 0; i < 108; i++) {
            all.add(cells[i % 12][i / 12]);
        }
        for (int i = 0; i < gangs.size(); i++) {
            for (int what = 0; what < 8; what++) {
                all.add(crowd(i, what));
            }
            all.addAll(gangs.get(i).orders);
        }
        for (int i = 0; i < watches.size(); i++) {
            for (int what = 0; what < 4; what++) {
                all.add(guard(i, what));
            }
        }
        long d = 997;
        for (int number : all) {
            d = d * 31 + number;
        }
        return d;
    }
}
