import java.util.Arrays;

/** Barricades that crowds move by night. */
public final class LaneCrowds {
    private static final int WIDTH = 12;
    private static final int HEIGHT = 9;
    private static final int CELLS = WIDTH * HEIGHT;
    private static final int HOUSE = -1;
    private static final int MOST_BARRICADES = 3;

    private static final int MOST_CROWDS = 6;
    private static final int MOST_PEOPLE = 9;
    private static final int PEOPLE_TO_RAISE = 3;
    private static final int MOST_ORDERS = 24;
    private static final int ORDER_CODES = 12;
    private static final int CROWD_NUMBERS = 8;

    private static final int MOST_PATROLS = 3;
    private static final int LONGEST_ROUND = 12;
    private static final int GUARD_NUMBERS = 4;
    private static final int SIGHT_BY_TORCH = 4;
    private static final int SIGHT_IN_THE_DARK = 1;

    private static final int COUNT_NUMBERS = 8;
    private static final int FORESEEN_NUMBERS = 3;
    private static final int MOST_STEPS = 60;
    private static final int NONE = -1;

    private final Night now;
    /** Where foresee and advise try things out; kept, so that no call makes objects. */
    private final Night trial;
    private final Ways ways;

    public LaneCrowds() {
        now = new Night();
        trial = new Night();
        ways = new Ways();
    }

    // ---- the quarter

    public boolean house(int x, int y) throws IndexOutOfBoundsException, IllegalStateException {
        int place = placeOf(x, y);
        int had = now.quarter.at(place);
        if (had > 0 || now.isTaken(place)) {
            throw new IllegalStateException("barricades or somebody there");
        }
        boolean built = had != HOUSE;
        now.quarter.put(place, built ? HOUSE : 0);
        return built;
    }

    public int block(int x, int y, int barricades)
            throws IndexOutOfBoundsException, IllegalArgumentException, IllegalStateException {
        int place = placeOf(x, y);
        if (barricades < 0 || barricades > MOST_BARRICADES) {
            throw new IllegalArgumentException("barricades not 0 to 3");
        }
        int had = now.quarter.at(place);
        if (had == HOUSE || now.isTaken(place)) {
            throw new IllegalStateException("a house or somebody there");
        }
        now.quarter.put(place, barricades);
        return had;
    }

    public int cell(int x, int y) throws IndexOutOfBoundsException {
        return now.quarter.at(placeOf(x, y));
    }

    // ---- crowds and patrols

    public int gather(int x, int y, int people)
            throws IndexOutOfBoundsException, IllegalArgumentException, IllegalStateException {
        int place = placeOf(x, y);
        if (people < 1 || people > MOST_PEOPLE) {
            throw new IllegalArgumentException("people not 1 to 9");
        }
        if (now.crowdCount >= MOST_CROWDS || !now.quarter.isFree(place)) {
            throw new IllegalStateException("6 crowds already, or the cell is not free");
        }
        return now.addCrowd(place, people);
    }

    public int order(int crowd, int code)
            throws IndexOutOfBoundsException, IllegalArgumentException, IllegalStateException {
        needCrowd(crowd);
        if (code < 0 || code >= ORDER_CODES) {
            throw new IllegalArgumentException("code not 0 to 11");
        }
        Crowd one = now.crowds[crowd];
        if (one.isScattered() || one.orderCount >= MOST_ORDERS) {
            throw new IllegalStateException("scattered, or 24 orders already");
        }
        one.addOrder(code);
        return one.orderCount;
    }

    public boolean torch(int crowd) throws IndexOutOfBoundsException, IllegalStateException {
        needCrowd(crowd);
        Crowd one = now.crowds[crowd];
        if (one.isScattered()) {
            throw new IllegalStateException("scattered");
        }
        one.burns = !one.burns;
        return one.burns;
    }

    public int patrol(int x, int y, int length, int round)
            throws IndexOutOfBoundsException, IllegalArgumentException, IllegalStateException {
        int place = placeOf(x, y);
        if (length < 1 || length > LONGEST_ROUND || round < 0 || round >= 1 << (2 * length)) {
            throw new IllegalArgumentException("length not 1 to 12, or round not of so many digits");
        }
        if (now.patrolCount >= MOST_PATROLS || !now.quarter.isFree(place)) {
            throw new IllegalStateException("3 patrols already, or the cell is not free");
        }
        return now.addPatrol(place, length, round);
    }

    public int crowd(int crowd, int what) throws IndexOutOfBoundsException {
        needCrowd(crowd);
        needWhat(what, CROWD_NUMBERS);
        return now.crowdNumber(now.crowds[crowd], what);
    }

    public int guard(int patrol, int what) throws IndexOutOfBoundsException {
        needPatrol(patrol);
        needWhat(what, GUARD_NUMBERS);
        return now.guardNumber(now.patrols[patrol], what);
    }

    public boolean sees(int patrol, int crowd) throws IndexOutOfBoundsException {
        needPatrol(patrol);
        needCrowd(crowd);
        return now.isSeen(now.patrols[patrol], now.crowds[crowd]);
    }

    public int count(int what) throws IndexOutOfBoundsException {
        needWhat(what, COUNT_NUMBERS);
        return now.total(what);
    }

    // ---- ways

    public int way(int x, int y, int toX, int toY) throws IndexOutOfBoundsException {
        return ways.fewestSteps(now.quarter, placeOf(x, y), placeOf(toX, toY));
    }

    public int shuts() {
        return ways.fewestToShut(now.quarter);
    }

    // ---- steps

    public int pass(int steps) throws IllegalArgumentException {
        needSteps(steps);
        int before = now.peopleLeft();
        now.goOn(steps);
        return before - now.peopleLeft();
    }

    public int foresee(int steps, int what) throws IllegalArgumentException, IndexOutOfBoundsException {
        needSteps(steps);
        needWhat(what, FORESEEN_NUMBERS);
        trial.become(now);
        trial.goOn(steps);
        switch (what) {
            case 0: return trial.peopleLeft();
            case 1: return trial.quarter.barricades();
            default: return ways.fewestToShut(trial.quarter);
        }
    }

    public int advise(int crowd) throws IndexOutOfBoundsException {
        needCrowd(crowd);
        if (now.crowds[crowd].isScattered()) {
            return NONE;
        }
        int best = NONE;
        int least = CELLS;
        for (int code = 0; code < ORDER_CODES; code++) {
            int shut = shutsBehind(crowd, code);
            if (shut < least) {
                least = shut;
                best = code;
            }
        }
        return best;
    }

    public double mean() {
        int crowds = now.crowdsLeft();
        return crowds == 0 ? 0.0 : (double) now.peopleLeft() / (double) crowds;
    }

    public long digest() {
        long sum = 997L;
        for (int what = 0; what < COUNT_NUMBERS; what++) {
            sum = sum * 31L + now.total(what);
        }
        sum = now.quarter.addCellsTo(sum);
        for (int i = 0; i < now.crowdCount; i++) {
            sum = now.addCrowdTo(sum, now.crowds[i]);
        }
        for (int i = 0; i < now.patrolCount; i++) {
            sum = now.addPatrolTo(sum, now.patrols[i]);
        }
        return sum;
    }

    /** What shuts() would tell behind one step, if the crowd had this order alone. */
    private int shutsBehind(int crowd, int code) {
        trial.become(now);
        trial.crowds[crowd].orderCount = 0;
        trial.crowds[crowd].addOrder(code);
        trial.goOn(1);
        return ways.fewestToShut(trial.quarter);
    }

    private static int placeOf(int x, int y) {
        if (x < 0 || x >= WIDTH || y < 0 || y >= HEIGHT) {
            throw new IndexOutOfBoundsException("no such cell");
        }
        return WIDTH * y + x;
    }

    private void needCrowd(int crowd) {
        if (crowd < 0 || crowd >= now.crowdCount) {
            throw new IndexOutOfBoundsException("no such crowd");
        }
    }

    private void needPatrol(int patrol) {
        if (patrol < 0 || patrol >= now.patrolCount) {
            throw new IndexOutOfBoundsException("no such patrol");
        }
    }

    private static void needWhat(int what, int numbers) {
        if (what < 0 || what >= numbers) {
            throw new IndexOutOfBoundsException("no such number is told");
        }
    }

    private static void needSteps(int steps) {
        if (steps < 1 || steps > MOST_STEPS) {
            throw new IllegalArgumentException("steps not 1 to 60");
        }
    }

    /** The cells by their places 12 * y + x, each a house or a lane with its barricades. */
    private static final class Quarter {
        private final int[] cells;

        private Quarter() {
            cells = new int[CELLS];
        }

        /** The neighbour of a place; NONE outside the quarter, and for NONE itself. */
        private static int next(int place, int direction) {
            if (place < 0 || place >= CELLS) {
                return NONE;
            }
            switch (direction) {
                case 0: return place >= WIDTH ? place - WIDTH : NONE;
                case 1: return place % WIDTH < WIDTH - 1 ? place + 1 : NONE;
                case 2: return place < CELLS - WIDTH ? place + WIDTH : NONE;
                default: return place % WIDTH > 0 ? place - 1 : NONE;
            }
        }

        /** Outside is told as a house, since no order and no round can do anything with either. */
        private int at(int place) {
            return place >= 0 && place < CELLS ? cells[place] : HOUSE;
        }

        private void put(int place, int value) {
            if (place >= 0 && place < CELLS) {
                cells[place] = value;
            }
        }

        private boolean isFree(int place) {
            return at(place) == 0;
        }

        private int cellsWith(int value) {
            int found = 0;
            for (int i = 0; i < CELLS; i++) {
                if (cells[i] == value) {
                    found++;
                }
            }
            return found;
        }

        private int barricades() {
            int sum = 0;
            for (int i = 0; i < CELLS; i++) {
                if (cells[i] > 0) {
                    sum += cells[i];
                }
            }
            return sum;
        }

        private long addCellsTo(long start) {
            long sum = start;
            for (int i = 0; i < CELLS; i++) {
                sum = sum * 31L + cells[i];
            }
            return sum;
        }

        private void become(Quarter other) {
            System.arraycopy(other.cells, 0, cells, 0, CELLS);
        }
    }

    /** A crowd, or room for one that has not gathered yet. */
    private static final class Crowd {
        private int place;
        private int people;
        private boolean burns;
        private final int[] orders;
        private int orderCount;
        private int missed;

        private Crowd() {
            orders = new int[MOST_ORDERS];
        }

        private boolean isScattered() {
            return people == 0;
        }

        private void addOrder(int code) {
            if (orderCount >= 0 && orderCount < MOST_ORDERS) {
                orders[orderCount] = code;
                orderCount++;
            }
        }

        private int firstOrder() {
            return orderCount > 0 ? orders[0] : NONE;
        }

        private void dropFirstOrder() {
            if (orderCount > 0 && orderCount <= MOST_ORDERS) {
                orderCount--;
                System.arraycopy(orders, 1, orders, 0, orderCount);
            }
        }

        private long addOrdersTo(long start) {
            long sum = start;
            for (int i = 0; i < orderCount && i < MOST_ORDERS; i++) {
                sum = sum * 31L + orders[i];
            }
            return sum;
        }

        private void become(Crowd other) {
            place = other.place;
            people = other.people;
            burns = other.burns;
            System.arraycopy(other.orders, 0, orders, 0, MOST_ORDERS);
            orderCount = other.orderCount;
            missed = other.missed;
        }
    }

    /** A patrol, or room for one that is not there yet. */
    private static final class Patrol {
        private int place;
        private int length;
        private int round;
        private int directionsDone;

        private int nextDirection() {
            return (round >> (2 * directionsDone)) & 3;
        }

        private void moveOn(Quarter quarter) {
            int ahead = Quarter.next(place, nextDirection());
            if (quarter.isFree(ahead)) {
                place = ahead;
            }
            directionsDone = directionsDone + 1 < length ? directionsDone + 1 : 0;
        }

        private void become(Patrol other) {
            place = other.place;
            length = other.length;
            round = other.round;
            directionsDone = other.directionsDone;
        }
    }

    /** All that a step can change: the quarter with its crowds and patrols. */
    private static final class Night {
        private final Quarter quarter;
        private final Crowd[] crowds;
        private int crowdCount;
        private final Patrol[] patrols;
        private int patrolCount;
        private int step;

        private Night() {
            quarter = new Quarter();
            crowds = new Crowd[MOST_CROWDS];
            for (int i = 0; i < MOST_CROWDS; i++) {
                crowds[i] = new Crowd();
            }
            patrols = new Patrol[MOST_PATROLS];
            for (int i = 0; i < MOST_PATROLS; i++) {
                patrols[i] = new Patrol();
            }
        }

        private int addCrowd(int place, int people) {
            int number = crowdCount;
            if (number < MOST_CROWDS) {
                crowds[number].place = place;
                crowds[number].people = people;
                crowds[number].burns = true;
                crowdCount++;
            }
            return number;
        }

        private int addPatrol(int place, int length, int round) {
            int number = patrolCount;
            if (number < MOST_PATROLS) {
                patrols[number].place = place;
                patrols[number].length = length;
                patrols[number].round = round;
                patrolCount++;
            }
            return number;
        }

        private boolean isTaken(int place) {
            for (int i = 0; i < crowdCount; i++) {
                if (crowds[i].people > 0 && crowds[i].place == place) {
                    return true;
                }
            }
            for (int i = 0; i < patrolCount; i++) {
                if (patrols[i].place == place) {
                    return true;
                }
            }
            return false;
        }

        private void goOn(int steps) {
            for (int i = 0; i < steps; i++) {
                obeyOrders();
                for (int k = 0; k < patrolCount; k++) {
                    patrols[k].moveOn(quarter);
                }
                scatter();
                step++;
            }
        }

        private void obeyOrders() {
            for (int i = 0; i < crowdCount; i++) {
                Crowd one = crowds[i];
                int code = one.firstOrder();
                if (one.isScattered() || code == NONE) {
                    continue;
                }
                one.dropFirstOrder();
                if (!tryOrder(one, code >> 2, code & 3)) {
                    one.missed++;
                }
            }
        }

        /** Does what an order says, if it can be done, and tells whether it could. */
        private boolean tryOrder(Crowd one, int kind, int direction) {
            int place = Quarter.next(one.place, direction);
            switch (kind) {
                case 0: return tryGo(one, place, Quarter.next(place, direction));
                case 1: return tryRaise(one, place);
                default: return tryPullDown(place);
            }
        }

        private boolean tryGo(Crowd one, int place, int behind) {
            int load = quarter.at(place);
            int there = quarter.at(behind);
            boolean pushes = load > 0 && one.people >= 2 * load
                    && there != HOUSE && there <= MOST_BARRICADES - load && !isTaken(behind);
            if (load != 0 && !pushes) {
                return false;
            }
            if (pushes) {
                quarter.put(place, 0);
                quarter.put(behind, there + load);
            }
            one.place = place;
            return true;
        }

        private boolean tryRaise(Crowd one, int place) {
            int had = quarter.at(place);
            if (one.people < PEOPLE_TO_RAISE || had == HOUSE || had >= MOST_BARRICADES || isTaken(place)) {
                return false;
            }
            quarter.put(place, had + 1);
            return true;
        }

        private boolean tryPullDown(int place) {
            int had = quarter.at(place);
            if (had <= 0) {
                return false;
            }
            quarter.put(place, had - 1);
            return true;
        }

        private void scatter() {
            for (int i = 0; i < crowdCount; i++) {
                Crowd one = crowds[i];
                one.people = Math.max(one.people - patrolsThatSee(one), 0);
            }
        }

        private boolean isSeen(Patrol patrol, Crowd one) {
            int farX = Math.abs(one.place % WIDTH - patrol.place % WIDTH);
            int farY = Math.abs(one.place / WIDTH - patrol.place / WIDTH);
            int far = farX + farY;
            int sight = one.burns ? SIGHT_BY_TORCH : SIGHT_IN_THE_DARK;
            if (one.isScattered() || (farX > 0 && farY > 0) || far > sight) {
                return false;
            }
            int first = Math.min(one.place, patrol.place);
            int stride = farY == 0 ? 1 : WIDTH;
            for (int i = 1; i < far; i++) {
                if (quarter.at(first + i * stride) != 0) {
                    return false;
                }
            }
            return true;
        }

        private int patrolsThatSee(Crowd one) {
            int found = 0;
            for (int i = 0; i < patrolCount; i++) {
                if (isSeen(patrols[i], one)) {
                    found++;
                }
            }
            return found;
        }

        private int crowdsSeenBy(Patrol patrol) {
            int found = 0;
            for (int i = 0; i < crowdCount; i++) {
                if (isSeen(patrol, crowds[i])) {
                    found++;
                }
            }
            return found;
        }

        private int crowdsLeft() {
            int found = 0;
            for (int i = 0; i < crowdCount; i++) {
                if (!crowds[i].isScattered()) {
                    found++;
                }
            }
            return found;
        }

        private int peopleLeft() {
            int sum = 0;
            for (int i = 0; i < crowdCount; i++) {
                sum += crowds[i].people;
            }
            return sum;
        }

        private int ordersMissed() {
            int sum = 0;
            for (int i = 0; i < crowdCount; i++) {
                sum += crowds[i].missed;
            }
            return sum;
        }

        private int crowdNumber(Crowd one, int what) {
            switch (what) {
                case 0: return one.place % WIDTH;
                case 1: return one.place / WIDTH;
                case 2: return one.people;
                case 3: return one.burns ? 1 : 0;
                case 4: return one.orderCount;
                case 5: return one.firstOrder();
                case 6: return one.missed;
                default: return patrolsThatSee(one);
            }
        }

        private int guardNumber(Patrol patrol, int what) {
            switch (what) {
                case 0: return patrol.place % WIDTH;
                case 1: return patrol.place / WIDTH;
                case 2: return patrol.nextDirection();
                default: return crowdsSeenBy(patrol);
            }
        }

        private int total(int what) {
            switch (what) {
                case 0: return step;
                case 1: return quarter.cellsWith(HOUSE);
                case 2: return quarter.barricades();
                case 3: return quarter.cellsWith(0);
                case 4: return crowdsLeft();
                case 5: return peopleLeft();
                case 6: return patrolCount;
                default: return ordersMissed();
            }
        }

        private long addCrowdTo(long start, Crowd one) {
            long sum = start;
            for (int what = 0; what < CROWD_NUMBERS; what++) {
                sum = sum * 31L + crowdNumber(one, what);
            }
            return one.addOrdersTo(sum);
        }

        private long addPatrolTo(long start, Patrol patrol) {
            long sum = start;
            for (int what = 0; what < GUARD_NUMBERS; what++) {
                sum = sum * 31L + guardNumber(patrol, what);
            }
            return sum;
        }

        private void become(Night other) {
            quarter.become(other.quarter);
            for (int i = 0; i < MOST_CROWDS; i++) {
                crowds[i].become(other.crowds[i]);
            }
            crowdCount = other.crowdCount;
            for (int i = 0; i < MOST_PATROLS; i++) {
                patrols[i].become(other.patrols[i]);
            }
            patrolCount = other.patrolCount;
            step = other.step;
        }
    }

    /** Searches through the quarter; the rows that they need are made once. */
    private static final class Ways {
        private static final int UNSEEN = -1;

        private final int[] far;
        /** Twice the cells, since a search that starts in the middle can grow to both ends. */
        private final int[] line;
        private int head;
        private int tail;

        private Ways() {
            far = new int[CELLS];
            line = new int[2 * CELLS];
        }

        private void startAnew() {
            Arrays.fill(far, UNSEEN);
            head = CELLS;
            tail = CELLS;
        }

        private int fewestSteps(Quarter quarter, int from, int to) {
            if (!quarter.isFree(from) || !quarter.isFree(to)) {
                return NONE;
            }
            startAnew();
            putLast(from, 0);
            for (int taken = 0; taken < CELLS && head < tail; taken++) {
                int place = line[head];
                head++;
                for (int direction = 0; direction < 4; direction++) {
                    int ahead = Quarter.next(place, direction);
                    if (quarter.isFree(ahead) && far[ahead] == UNSEEN) {
                        putLast(ahead, far[place] + 1);
                    }
                }
            }
            return far[to];
        }

        /**
         * No way leads across exactly when cells that are not free, touching at sides or
         * corners, make a line from the top to the bottom; so the cheapest such line, in which
         * only free cells cost something, tells how many must be shut.
         */
        private int fewestToShut(Quarter quarter) {
            startAnew();
            for (int x = 0; x < WIDTH; x++) {
                lead(quarter, x, 0);
            }
            for (int taken = 0; taken < CELLS && head < tail; taken++) {
                int place = line[head];
                head++;
                leadAround(quarter, place);
            }
            int least = HEIGHT;
            for (int place = CELLS - WIDTH; place < CELLS; place++) {
                least = Math.min(least, far[place]);
            }
            return least;
        }

        private void leadAround(Quarter quarter, int place) {
            int x = place % WIDTH;
            int y = place / WIDTH;
            for (int toY = Math.max(y - 1, 0); toY <= y + 1 && toY < HEIGHT; toY++) {
                for (int toX = Math.max(x - 1, 0); toX <= x + 1 && toX < WIDTH; toX++) {
                    lead(quarter, WIDTH * toY + toX, far[place]);
                }
            }
        }

        /** Cells that cost nothing go first, so that cells are taken by what the line to them costs. */
        private void lead(Quarter quarter, int place, int cost) {
            if (far[place] != UNSEEN) {
                return;
            }
            if (quarter.isFree(place)) {
                putLast(place, cost + 1);
            } else {
                putFirst(place, cost);
            }
        }

        private void putLast(int place, int cost) {
            if (tail < line.length) {
                far[place] = cost;
                line[tail] = place;
                tail++;
            }
        }

        private void putFirst(int place, int cost) {
            if (head > 0) {
                far[place] = cost;
                head--;
                line[head] = place;
            }
        }
    }
}
