import java.util.Arrays;

/** A maze of tunnels in the snow at a glacier's foot. */
public final class SnowMaze {
    private static final int SIDE = 16;
    private static final int CELLS = SIDE * SIDE;

    private static final int NORTH = 0;
    private static final int EAST = 1;
    private static final int SOUTH = 2;
    private static final int WEST = 3;
    private static final int DIRECTIONS = 4;

    private static final int OPEN = 0;
    private static final int NEW_SNOW = 3;
    private static final int FALLEN_SNOW = 2;
    private static final int ICE = 10;

    private static final int SHORE = 4;
    private static final int TRADE = 6;
    private static final int LAST_ORDER = 6;
    private static final int MOST_TIMES = 9;
    private static final int MOST_ORDERS = 24;

    private static final int MOST_TUNNELLERS = 8;
    private static final int MOST_POSTS = 20;
    private static final int MOST_LAMPS = 9;
    private static final int FULL_OIL = 60;
    private static final int FEWEST_LAMPS_MORE = 2;

    private static final int LIGHT_STEPS = 3;
    private static final int POST_STEPS = 2;
    private static final int FALL_AGE = 12;
    private static final int MOST_TICKS = 100;

    private static final int COUNTS = 9;
    private static final int TUNNELLER_FACTS = 9;
    private static final long DIGEST_START = 509;
    private static final long DIGEST_FACTOR = 31;

    /** A cell beyond the edge, a way that does not exist, an order where none is left. */
    private static final int NONE = -1;

    private final Maze now;
    /** Looking ahead happens here, so that nothing is changed and nothing is made anew. */
    private final Maze ahead;
    private final Shaft shaft;

    public SnowMaze() {
        now = new Maze();
        ahead = new Maze();
        shaft = new Shaft();
    }

    // ---- the snow

    public int lay(int x, int y, int sort)
            throws IndexOutOfBoundsException, IllegalArgumentException, IllegalStateException {
        int place = placeOf(x, y);
        if (sort < OPEN || sort > ICE) {
            throw new IllegalArgumentException("no such sort");
        }
        if (now.crewAt(place) > 0) {
            throw new IllegalStateException("a tunneller is there");
        }
        int before = now.snow.sortAt(place);
        now.snow.put(place, sort);
        return before;
    }

    public int cell(int x, int y, int what) throws IndexOutOfBoundsException {
        int place = placeOf(x, y);
        switch (what) {
            case 0:
                return now.snow.sortAt(place);
            case 1:
                return now.snow.ageAt(place);
            case 2:
                return now.snow.postsAt(place);
            case 3:
                return oneIf(now.isHeld(place));
            case 4:
                return oneIf(now.isLit(place));
            case 5:
                return now.crewAt(place);
            default:
                throw new IndexOutOfBoundsException("a cell tells 0 to 5");
        }
    }

    // ---- tunnellers

    public int come(int x, int y, int posts, int lamps)
            throws IndexOutOfBoundsException, IllegalArgumentException, IllegalStateException {
        int place = placeOf(x, y);
        if (posts < 0 || posts > MOST_POSTS) {
            throw new IllegalArgumentException("posts are 0 to 20");
        }
        if (lamps < 0 || lamps > MOST_LAMPS) {
            throw new IllegalArgumentException("lamps are 0 to 9");
        }
        if (now.snow.sortAt(place) == ICE || now.buriedAt(place) > 0) {
            throw new IllegalStateException("nobody can come there");
        }
        if (now.crewSize >= MOST_TUNNELLERS) {
            throw new IllegalStateException("there are 8 tunnellers");
        }
        return now.welcome(place, posts, lamps);
    }

    public int order(int tunneller, int order, int times)
            throws IndexOutOfBoundsException, IllegalArgumentException, IllegalStateException {
        Tunneller who = member(tunneller);
        if (order < 0 || order > LAST_ORDER) {
            throw new IllegalArgumentException("orders are 0 to 6");
        }
        if (times < 1 || times > MOST_TIMES) {
            throw new IllegalArgumentException("times are 1 to 9");
        }
        if (who.ordersLeft + times > MOST_ORDERS) {
            throw new IllegalStateException("there would be more than 24 orders");
        }
        who.addOrders(order, times);
        return who.ordersLeft;
    }

    public int call(int tunneller) throws IndexOutOfBoundsException {
        Tunneller who = member(tunneller);
        int before = who.ordersLeft;
        who.ordersLeft = 0;
        return before;
    }

    public int tunneller(int tunneller, int what) throws IndexOutOfBoundsException {
        Tunneller who = member(tunneller);
        switch (what) {
            case 0:
                return who.place % SIDE;
            case 1:
                return who.place / SIDE;
            case 2:
                return who.posts;
            case 3:
                return who.lamps;
            case 4:
                return who.oil;
            case 5:
                return who.ordersLeft;
            case 6:
                return who.firstOrder();
            case 7:
                return oneIf(who.buried);
            case 8:
                return who.opened;
            default:
                throw new IndexOutOfBoundsException("a tunneller tells 0 to 8");
        }
    }

    // ---- ticks

    public int pass(int ticks) throws IllegalArgumentException {
        requireTicks(ticks);
        int before = now.openedByCrew();
        for (int i = 0; i < ticks; i++) {
            now.tick();
        }
        return now.openedByCrew() - before;
    }

    public int count(int what) throws IndexOutOfBoundsException {
        switch (what) {
            case 0:
                return now.ticks;
            case 1:
                return now.crewSize;
            case 2:
                return now.buriedCrew();
            case 3:
                return now.snow.openCells();
            case 4:
                return now.snow.postsSet();
            case 5:
                return now.fallenCells;
            case 6:
                return now.litCells();
            case 7:
                return now.looseCells();
            case 8:
                return now.tradedLamps;
            default:
                throw new IndexOutOfBoundsException("the counts are 0 to 8");
        }
    }

    // ---- ways

    public int way(int ax, int ay, int bx, int by) throws IndexOutOfBoundsException {
        int from = placeOf(ax, ay);
        int to = placeOf(bx, by);
        return now.stepsBetween(from, to);
    }

    public int dig(int ax, int ay, int bx, int by) throws IndexOutOfBoundsException {
        int from = placeOf(ax, ay);
        int to = placeOf(bx, by);
        return shaft.leastSum(now.snow, from, to);
    }

    public int caves(int what) throws IndexOutOfBoundsException {
        switch (what) {
            case 0:
                return now.cavesWithout(NONE);
            case 1:
                return now.largestCave();
            case 2:
                return now.cavesWithCrew();
            default:
                throw new IndexOutOfBoundsException("caves tell 0 to 2");
        }
    }

    // ---- looking ahead

    public int meet(int a, int b, int ticks) throws IndexOutOfBoundsException, IllegalArgumentException {
        Tunneller one = member(a);
        Tunneller other = member(b);
        if (one == other) {
            throw new IllegalArgumentException("both are the same");
        }
        requireTicks(ticks);
        ahead.becomeLike(now);
        for (int gone = 0; gone < ticks; gone++) {
            if (ahead.areTogether(a, b)) {
                return gone;
            }
            ahead.tick();
        }
        return ahead.areTogether(a, b) ? ticks : NONE;
    }

    public int foresee(int ticks, int what) throws IllegalArgumentException, IndexOutOfBoundsException {
        requireTicks(ticks);
        if (what < 0 || what > 3) {
            throw new IndexOutOfBoundsException("what is foreseen is 0 to 3");
        }
        ahead.becomeLike(now);
        for (int i = 0; i < ticks; i++) {
            ahead.tick();
        }
        switch (what) {
            case 0:
                return ahead.buriedCrew();
            case 1:
                return ahead.snow.openCells();
            case 2:
                return ahead.oilOfCrew();
            default:
                return ahead.ordersOfCrew();
        }
    }

    public int without(int x, int y) throws IndexOutOfBoundsException {
        int place = placeOf(x, y);
        return now.snow.isOpen(place) ? now.cavesWithout(place) : NONE;
    }

    public double light() {
        int open = now.snow.openCells();
        if (open == 0) {
            return 0;
        }
        return (double) now.litOpenCells() / open;
    }

    public long digest() {
        long sum = DIGEST_START;
        for (int what = 0; what < COUNTS; what++) {
            sum = sum * DIGEST_FACTOR + count(what);
        }
        for (int place = 0; place < CELLS; place++) {
            sum = sum * DIGEST_FACTOR + now.snow.sortAt(place);
            sum = sum * DIGEST_FACTOR + now.snow.ageAt(place);
            sum = sum * DIGEST_FACTOR + now.snow.postsAt(place);
        }
        for (int number = 0; number < now.crewSize; number++) {
            for (int what = 0; what < TUNNELLER_FACTS; what++) {
                sum = sum * DIGEST_FACTOR + tunneller(number, what);
            }
        }
        return sum;
    }

    // ---- what several calls need

    private static int placeOf(int x, int y) {
        if (x < 0 || x >= SIDE || y < 0 || y >= SIDE) {
            throw new IndexOutOfBoundsException("no such cell");
        }
        return x + SIDE * y;
    }

    private static void requireTicks(int ticks) {
        if (ticks < 1 || ticks > MOST_TICKS) {
            throw new IllegalArgumentException("ticks are 1 to 100");
        }
    }

    private Tunneller member(int number) {
        Tunneller found = now.member(number);
        if (found == null) {
            throw new IndexOutOfBoundsException("no such tunneller");
        }
        return found;
    }

    private static int oneIf(boolean holds) {
        return holds ? 1 : 0;
    }

    /** The cell side by side with a cell, NONE beyond the edge. */
    private static int beside(int place, int direction) {
        int x = place % SIDE;
        int y = place / SIDE;
        switch (direction) {
            case NORTH:
                return y > 0 ? place - SIDE : NONE;
            case EAST:
                return x < SIDE - 1 ? place + 1 : NONE;
            case SOUTH:
                return y < SIDE - 1 ? place + SIDE : NONE;
            case WEST:
                return x > 0 ? place - 1 : NONE;
            default:
                return NONE;
        }
    }

    private static boolean isNear(int one, int other) {
        boolean near = one == other;
        for (int direction = 0; direction < DIRECTIONS; direction++) {
            near = near || beside(one, direction) == other;
        }
        return near;
    }

    /** The cells. Beyond the edge it is like ice: nobody digs or steps there. */
    private static final class Snow {
        private final int[] sorts = new int[CELLS];
        private final int[] ages = new int[CELLS];
        private final int[] posts = new int[CELLS];

        Snow() {
            Arrays.fill(sorts, NEW_SNOW);
        }

        void becomeLike(Snow other) {
            System.arraycopy(other.sorts, 0, sorts, 0, CELLS);
            System.arraycopy(other.ages, 0, ages, 0, CELLS);
            System.arraycopy(other.posts, 0, posts, 0, CELLS);
        }

        int sortAt(int place) {
            return place >= 0 && place < CELLS ? sorts[place] : ICE;
        }

        boolean isOpen(int place) {
            return place >= 0 && place < CELLS && sorts[place] == OPEN;
        }

        /** The age of an open cell; all others keep the age 0. */
        int ageAt(int place) {
            return place >= 0 && place < CELLS ? ages[place] : 0;
        }

        int postsAt(int place) {
            return place >= 0 && place < CELLS ? posts[place] : 0;
        }

        void put(int place, int sort) {
            if (place >= 0 && place < CELLS) {
                sorts[place] = sort;
                ages[place] = 0;
                posts[place] = 0;
            }
        }

        void setPost(int place) {
            if (isOpen(place)) {
                posts[place] = 1;
            }
        }

        void growOlder() {
            for (int place = 0; place < CELLS; place++) {
                if (sorts[place] == OPEN) {
                    ages[place]++;
                }
            }
        }

        int openCells() {
            int found = 0;
            for (int place = 0; place < CELLS; place++) {
                if (sorts[place] == OPEN) {
                    found++;
                }
            }
            return found;
        }

        int postsSet() {
            int found = 0;
            for (int place = 0; place < CELLS; place++) {
                found += posts[place];
            }
            return found;
        }
    }

    /** The open cells to which one comes from some starts, and by how many steps. */
    private static final class Reach {
        private final int[] steps = new int[CELLS];
        private final int[] reached = new int[CELLS];
        private int reachedCells;
        private int next;

        Reach() {
            Arrays.fill(steps, NONE);
        }

        /** Only what was reached is wiped: most reaches are small, and every tick makes some. */
        void clear() {
            for (int i = 0; i < reachedCells && i < CELLS; i++) {
                int place = reached[i];
                if (place >= 0 && place < CELLS) {
                    steps[place] = NONE;
                }
            }
            reachedCells = 0;
            next = 0;
        }

        void add(int place, int stepsTo) {
            if (place >= 0 && place < CELLS && steps[place] == NONE && reachedCells < CELLS) {
                steps[place] = stepsTo;
                reached[reachedCells] = place;
                reachedCells++;
            }
        }

        /** Has a cell count as reached already, so that no way leads over it. */
        void shut(int place) {
            add(place, 0);
            next = reachedCells;
        }

        void spread(Snow snow, int mostSteps) {
            for (; next < reachedCells && next < CELLS; next++) {
                int place = reached[next];
                int gone = stepsTo(place);
                for (int direction = 0; direction < DIRECTIONS && gone < mostSteps; direction++) {
                    int neighbour = beside(place, direction);
                    if (snow.isOpen(neighbour)) {
                        add(neighbour, gone + 1);
                    }
                }
            }
        }

        int stepsTo(int place) {
            return place >= 0 && place < CELLS ? steps[place] : NONE;
        }

        boolean holds(int place) {
            return stepsTo(place) != NONE;
        }
    }

    /** The least sum of hardnesses between two cells. */
    private static final class Shaft {
        private final int[] sums = new int[CELLS];
        /** In the order of the sums: the first way that finds a cell is one of the least, so none is found twice. */
        private final int[] queue = new int[CELLS];
        private int queued;

        int leastSum(Snow snow, int from, int to) {
            Arrays.fill(sums, NONE);
            queued = 0;
            enter(snow, from, 0);
            for (int i = 0; i < queued && i < CELLS; i++) {
                int place = queue[i];
                for (int direction = 0; direction < DIRECTIONS; direction++) {
                    enter(snow, beside(place, direction), sumTo(place));
                }
            }
            return sumTo(to);
        }

        private int sumTo(int place) {
            return place >= 0 && place < CELLS ? sums[place] : NONE;
        }

        private void enter(Snow snow, int place, int sumBefore) {
            int sort = snow.sortAt(place);
            if (sort == ICE || place < 0 || place >= CELLS || sums[place] != NONE || queued >= CELLS) {
                return;
            }
            int sum = sumBefore + sort;
            int slot = queued;
            while (slot > 0 && sumTo(queue[slot - 1]) > sum) {
                queue[slot] = queue[slot - 1];
                slot--;
            }
            queue[slot] = place;
            sums[place] = sum;
            queued++;
        }
    }

    private static final class Tunneller {
        private int place;
        private int posts;
        private int lamps;
        private int oil;
        private boolean buried;
        private int opened;
        private final int[] orders = new int[MOST_ORDERS];
        private int ordersLeft;

        void becomeLike(Tunneller other) {
            place = other.place;
            posts = other.posts;
            lamps = other.lamps;
            oil = other.oil;
            buried = other.buried;
            opened = other.opened;
            System.arraycopy(other.orders, 0, orders, 0, MOST_ORDERS);
            ordersLeft = other.ordersLeft;
        }

        void addOrders(int order, int times) {
            for (int i = 0; i < times && ordersLeft < MOST_ORDERS; i++) {
                orders[ordersLeft] = order;
                ordersLeft++;
            }
        }

        int firstOrder() {
            return ordersLeft > 0 ? orders[0] : NONE;
        }

        void dropFirstOrder() {
            for (int i = 1; i < ordersLeft && i < MOST_ORDERS; i++) {
                orders[i - 1] = orders[i];
            }
            if (ordersLeft > 0) {
                ordersLeft--;
            }
        }

        void burnOil() {
            if (oil > 0) {
                oil--;
            }
            if (oil == 0 && lamps > 0) {
                lamps--;
                oil = FULL_OIL;
            }
        }
    }

    /** All that a tick changes. */
    private static final class Maze {
        private final Snow snow = new Snow();
        private final Reach reach = new Reach();
        private final Tunneller[] crew = new Tunneller[MOST_TUNNELLERS];
        private int crewSize;
        private int ticks;
        private int fallenCells;
        private int tradedLamps;

        Maze() {
            for (int i = 0; i < MOST_TUNNELLERS; i++) {
                crew[i] = new Tunneller();
            }
        }

        void becomeLike(Maze other) {
            snow.becomeLike(other.snow);
            for (int i = 0; i < MOST_TUNNELLERS; i++) {
                crew[i].becomeLike(other.crew[i]);
            }
            crewSize = other.crewSize;
            ticks = other.ticks;
            fallenCells = other.fallenCells;
            tradedLamps = other.tradedLamps;
        }

        /** The tunneller of this number, null if there is none. */
        Tunneller member(int number) {
            return number >= 0 && number < crewSize && number < MOST_TUNNELLERS ? crew[number] : null;
        }

        /** The cell must not be ice, and nobody be buried there; NONE if the row of tunnellers is full. */
        int welcome(int place, int posts, int lamps) {
            if (crewSize >= MOST_TUNNELLERS) {
                return NONE;
            }
            if (!snow.isOpen(place)) {
                snow.put(place, OPEN);
            }
            Tunneller who = crew[crewSize];
            who.place = place;
            who.posts = posts;
            who.lamps = lamps;
            crewSize++;
            return crewSize - 1;
        }

        // ---- a tick

        void tick() {
            for (int i = 0; i < crewSize && i < MOST_TUNNELLERS; i++) {
                if (!crew[i].buried) {
                    crew[i].burnOil();
                }
            }
            for (int i = 0; i < crewSize && i < MOST_TUNNELLERS; i++) {
                if (!crew[i].buried) {
                    act(crew[i]);
                }
            }
            lowerRoofs();
            ticks++;
        }

        private void act(Tunneller who) {
            int order = who.firstOrder();
            boolean done = true;
            if (order >= 0 && order < DIRECTIONS) {
                done = step(who, order);
            } else if (order == SHORE) {
                shore(who);
            } else if (order == TRADE) {
                done = trade(who);
            }
            if (done) {
                who.dropFirstOrder();
            }
        }

        private boolean step(Tunneller who, int direction) {
            int next = beside(who.place, direction);
            int hardness = snow.sortAt(next);
            if (hardness == ICE) {
                return true;
            }
            if (hardness > OPEN) {
                findLight();
                if (!reach.holds(who.place)) {
                    return false;
                }
                snow.put(next, hardness - 1);
                if (hardness > 1) {
                    return false;
                }
                who.opened++;
                setBuriedAt(next, false);
            }
            who.place = next;
            return true;
        }

        private void shore(Tunneller who) {
            if (who.posts > 0 && snow.postsAt(who.place) == 0) {
                who.posts--;
                snow.setPost(who.place);
            }
        }

        private boolean trade(Tunneller who) {
            Tunneller other = partnerOf(who);
            if (other == null) {
                return false;
            }
            if (who.lamps >= other.lamps + FEWEST_LAMPS_MORE) {
                handLamp(who, other);
            } else if (other.lamps >= who.lamps + FEWEST_LAMPS_MORE) {
                handLamp(other, who);
            }
            return true;
        }

        private Tunneller partnerOf(Tunneller who) {
            for (int i = 0; i < crewSize && i < MOST_TUNNELLERS; i++) {
                Tunneller other = crew[i];
                if (other != who && !other.buried && isNear(other.place, who.place)) {
                    return other;
                }
            }
            return null;
        }

        private void handLamp(Tunneller giver, Tunneller taker) {
            giver.lamps--;
            taker.lamps++;
            tradedLamps++;
        }

        /** What holds is found once, ahead of the first fall, since all fall at once. */
        private void lowerRoofs() {
            snow.growOlder();
            findHeld();
            for (int place = 0; place < CELLS; place++) {
                if (snow.ageAt(place) >= FALL_AGE && !reach.holds(place)) {
                    snow.put(place, FALLEN_SNOW);
                    setBuriedAt(place, true);
                    fallenCells++;
                }
            }
        }

        private void setBuriedAt(int place, boolean buried) {
            for (int i = 0; i < crewSize && i < MOST_TUNNELLERS; i++) {
                if (crew[i].place == place) {
                    crew[i].buried = buried;
                }
            }
        }

        // ---- roofs and light

        private void findHeld() {
            reach.clear();
            for (int place = 0; place < CELLS; place++) {
                if (snow.postsAt(place) > 0) {
                    reach.add(place, 0);
                }
            }
            reach.spread(snow, POST_STEPS);
        }

        boolean isHeld(int place) {
            findHeld();
            return reach.holds(place);
        }

        int looseCells() {
            findHeld();
            return snow.openCells() - reach.reachedCells;
        }

        /** Finds the open cells that are lit; cells of snow are lit through these. */
        private void findLight() {
            reach.clear();
            for (int i = 0; i < crewSize && i < MOST_TUNNELLERS; i++) {
                if (!crew[i].buried && crew[i].oil > 0) {
                    reach.add(crew[i].place, 0);
                }
            }
            reach.spread(snow, LIGHT_STEPS);
        }

        boolean isLit(int place) {
            findLight();
            return shinesOn(place);
        }

        int litCells() {
            findLight();
            int lit = 0;
            for (int place = 0; place < CELLS; place++) {
                if (shinesOn(place)) {
                    lit++;
                }
            }
            return lit;
        }

        int litOpenCells() {
            findLight();
            return reach.reachedCells;
        }

        private boolean shinesOn(int place) {
            if (snow.sortAt(place) == ICE) {
                return false;
            }
            boolean lit = reach.holds(place);
            if (!snow.isOpen(place)) {
                for (int direction = 0; direction < DIRECTIONS; direction++) {
                    lit = lit || reach.holds(beside(place, direction));
                }
            }
            return lit;
        }

        // ---- ways and caves

        int stepsBetween(int from, int to) {
            reach.clear();
            if (snow.isOpen(from)) {
                reach.add(from, 0);
                reach.spread(snow, CELLS);
            }
            return reach.stepsTo(to);
        }

        /** How many caves there are if the cell at the place is not open; NONE leaves all as they are. */
        int cavesWithout(int place) {
            reach.clear();
            reach.shut(place);
            int found = 0;
            for (int start = 0; start < CELLS; start++) {
                if (snow.isOpen(start) && !reach.holds(start)) {
                    reach.add(start, 0);
                    reach.spread(snow, CELLS);
                    found++;
                }
            }
            return found;
        }

        int largestCave() {
            reach.clear();
            int largest = 0;
            for (int start = 0; start < CELLS; start++) {
                if (snow.isOpen(start)) {
                    int before = reach.reachedCells;
                    reach.add(start, 0);
                    reach.spread(snow, CELLS);
                    largest = Math.max(largest, reach.reachedCells - before);
                }
            }
            return largest;
        }

        int cavesWithCrew() {
            reach.clear();
            int found = 0;
            for (int i = 0; i < crewSize && i < MOST_TUNNELLERS; i++) {
                if (!crew[i].buried && !reach.holds(crew[i].place)) {
                    reach.add(crew[i].place, 0);
                    reach.spread(snow, CELLS);
                    found++;
                }
            }
            return found;
        }

        // ---- what the tunnellers are together

        boolean areTogether(int a, int b) {
            Tunneller one = member(a);
            Tunneller other = member(b);
            if (one == null || other == null || one.buried || other.buried) {
                return false;
            }
            return isNear(one.place, other.place);
        }

        int crewAt(int place) {
            int found = 0;
            for (int i = 0; i < crewSize && i < MOST_TUNNELLERS; i++) {
                if (crew[i].place == place) {
                    found++;
                }
            }
            return found;
        }

        int buriedAt(int place) {
            int found = 0;
            for (int i = 0; i < crewSize && i < MOST_TUNNELLERS; i++) {
                if (crew[i].place == place && crew[i].buried) {
                    found++;
                }
            }
            return found;
        }

        int buriedCrew() {
            int found = 0;
            for (int i = 0; i < crewSize && i < MOST_TUNNELLERS; i++) {
                if (crew[i].buried) {
                    found++;
                }
            }
            return found;
        }

        int openedByCrew() {
            int sum = 0;
            for (int i = 0; i < crewSize && i < MOST_TUNNELLERS; i++) {
                sum += crew[i].opened;
            }
            return sum;
        }

        int oilOfCrew() {
            int sum = 0;
            for (int i = 0; i < crewSize && i < MOST_TUNNELLERS; i++) {
                sum += crew[i].oil;
            }
            return sum;
        }

        int ordersOfCrew() {
            int sum = 0;
            for (int i = 0; i < crewSize && i < MOST_TUNNELLERS; i++) {
                sum += crew[i].ordersLeft;
            }
            return sum;
        }
    }
}
