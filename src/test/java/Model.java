import java.util.ArrayDeque;
import java.util.ArrayList;
import java.util.Deque;
import java.util.List;

/** The document once more, written apart from the class, slowly and plainly: each answer is sought anew. */
final class Model {
    private static final int FAR = 1_000_000;

    private static final class Person {
        int x;
        int y;
        int posts;
        int lamps;
        int oil;
        boolean buried;
        int opened;
        Deque<Integer> orders = new ArrayDeque<>();
    }

    /** By column and row. */
    private int[][] sort = new int[16][16];
    private int[][] age = new int[16][16];
    private boolean[][] post = new boolean[16][16];
    private List<Person> people = new ArrayList<>();
    private int tick;
    private int fallen;
    private int traded;

    Model() {
        for (int x = 0; x < 16; x++) {
            for (int y = 0; y < 16; y++) {
                sort[x][y] = 3;
            }
        }
    }

    private Model copy() {
        Model twin = new Model();
        for (int x = 0; x < 16; x++) {
            twin.sort[x] = sort[x].clone();
            twin.age[x] = age[x].clone();
            twin.post[x] = post[x].clone();
        }
        for (Person one : people) {
            Person other = new Person();
            other.x = one.x;
            other.y = one.y;
            other.posts = one.posts;
            other.lamps = one.lamps;
            other.oil = one.oil;
            other.buried = one.buried;
            other.opened = one.opened;
            other.orders.addAll(one.orders);
            twin.people.add(other);
        }
        twin.tick = tick;
        twin.fallen = fallen;
        twin.traded = traded;
        return twin;
    }

    // ---- what is where

    private static boolean inside(int x, int y) {
        return 0 <= x && x <= 15 && 0 <= y && y <= 15;
    }

    private boolean open(int x, int y) {
        return inside(x, y) && sort[x][y] == 0;
    }

    private boolean burning(int x, int y) {
        return people.stream().anyMatch(p -> p.x == x && p.y == y && !p.buried && p.oil > 0);
    }

    /** Walks over open cells by at most so many steps, and looks for a post or for a lamp that burns. */
    private boolean finds(int x, int y, int steps, boolean aPost) {
        if (!open(x, y)) {
            return false;
        }
        if (aPost ? post[x][y] : burning(x, y)) {
            return true;
        }
        return steps > 0 && (finds(x, y - 1, steps - 1, aPost) || finds(x + 1, y, steps - 1, aPost)
            || finds(x, y + 1, steps - 1, aPost) || finds(x - 1, y, steps - 1, aPost));
    }

    private boolean held(int x, int y) {
        return finds(x, y, 2, true);
    }

    private boolean lit(int x, int y) {
        if (!inside(x, y) || sort[x][y] == 10) {
            return false;
        }
        if (open(x, y)) {
            return finds(x, y, 3, false);
        }
        return open(x, y - 1) && lit(x, y - 1) || open(x + 1, y) && lit(x + 1, y)
            || open(x, y + 1) && lit(x, y + 1) || open(x - 1, y) && lit(x - 1, y);
    }

    private static boolean near(Person a, Person b) {
        return Math.abs(a.x - b.x) + Math.abs(a.y - b.y) <= 1;
    }

    // ---- a tick

    private int go() {
        int before = openedByAll();
        for (Person p : people) {
            if (!p.buried) {
                p.oil = Math.max(0, p.oil - 1);
                if (p.oil == 0 && p.lamps > 0) {
                    p.lamps--;
                    p.oil = 60;
                }
            }
        }
        for (Person p : people) {
            if (!p.buried && !p.orders.isEmpty() && does(p, p.orders.getFirst())) {
                p.orders.removeFirst();
            }
        }
        roofs();
        tick++;
        return openedByAll() - before;
    }

    private boolean does(Person p, int order) {
        if (order <= 3) {
            return steps(p, p.x + (order == 1 ? 1 : order == 3 ? -1 : 0), p.y + (order == 2 ? 1 : order == 0 ? -1 : 0));
        }
        if (order == 4 && p.posts > 0 && !post[p.x][p.y]) {
            p.posts--;
            post[p.x][p.y] = true;
        }
        return order != 6 || trades(p);
    }

    private boolean steps(Person p, int x, int y) {
        if (!inside(x, y) || sort[x][y] == 10) {
            return true;
        }
        if (sort[x][y] > 0) {
            if (lit(p.x, p.y)) {
                sort[x][y]--;
                if (sort[x][y] == 0) {
                    age[x][y] = 0;
                    p.opened++;
                    people.stream().filter(q -> q.x == x && q.y == y).forEach(q -> q.buried = false);
                    p.x = x;
                    p.y = y;
                    return true;
                }
            }
            return false;
        }
        p.x = x;
        p.y = y;
        return true;
    }

    private boolean trades(Person p) {
        for (Person q : people) {
            if (q != p && !q.buried && near(p, q)) {
                Person rich = p.lamps > q.lamps ? p : q;
                Person poor = rich == p ? q : p;
                if (rich.lamps - poor.lamps >= 2) {
                    rich.lamps--;
                    poor.lamps++;
                    traded++;
                }
                return true;
            }
        }
        return false;
    }

    private void roofs() {
        boolean[][] falls = new boolean[16][16];
        for (int x = 0; x < 16; x++) {
            for (int y = 0; y < 16; y++) {
                if (open(x, y)) {
                    age[x][y]++;
                    falls[x][y] = age[x][y] >= 12 && !held(x, y);
                }
            }
        }
        for (int x = 0; x < 16; x++) {
            for (int y = 0; y < 16; y++) {
                if (falls[x][y]) {
                    sort[x][y] = 2;
                    age[x][y] = 0;
                    fallen++;
                }
            }
        }
        people.stream().filter(p -> falls[p.x][p.y]).forEach(p -> p.buried = true);
    }

    private int openedByAll() {
        return people.stream().mapToInt(p -> p.opened).sum();
    }

    // ---- the calls

    private static void needCell(int x, int y) {
        if (!inside(x, y)) {
            throw new IndexOutOfBoundsException();
        }
    }

    private static void needRange(int number, int least, int most) {
        if (number < least || number > most) {
            throw new IllegalArgumentException();
        }
    }

    private static void needWhat(int what, int most) {
        if (what < 0 || what > most) {
            throw new IndexOutOfBoundsException();
        }
    }

    private Person need(int number) {
        needWhat(number, people.size() - 1);
        return people.get(number);
    }

    private static void needState(boolean holds) {
        if (!holds) {
            throw new IllegalStateException();
        }
    }

    int lay(int x, int y, int laid) {
        needCell(x, y);
        needRange(laid, 0, 10);
        needState(people.stream().noneMatch(p -> p.x == x && p.y == y));
        int before = sort[x][y];
        sort[x][y] = laid;
        age[x][y] = 0;
        post[x][y] = false;
        return before;
    }

    int cell(int x, int y, int what) {
        needCell(x, y);
        needWhat(what, 5);
        int there = (int) people.stream().filter(p -> p.x == x && p.y == y).count();
        int[] answers = {sort[x][y], open(x, y) ? age[x][y] : 0, post[x][y] ? 1 : 0,
            held(x, y) ? 1 : 0, lit(x, y) ? 1 : 0, there};
        return answers[what];
    }

    int come(int x, int y, int posts, int lamps) {
        needCell(x, y);
        needRange(posts, 0, 20);
        needRange(lamps, 0, 9);
        needState(sort[x][y] != 10);
        needState(people.stream().noneMatch(p -> p.x == x && p.y == y && p.buried));
        needState(people.size() < 8);
        if (sort[x][y] != 0) {
            sort[x][y] = 0;
            age[x][y] = 0;
        }
        Person p = new Person();
        p.x = x;
        p.y = y;
        p.posts = posts;
        p.lamps = lamps;
        people.add(p);
        return people.size() - 1;
    }

    int order(int number, int order, int times) {
        Person p = need(number);
        needRange(order, 0, 6);
        needRange(times, 1, 9);
        needState(p.orders.size() + times <= 24);
        for (int i = 0; i < times; i++) {
            p.orders.addLast(order);
        }
        return p.orders.size();
    }

    int call(int number) {
        Person p = need(number);
        int before = p.orders.size();
        p.orders.clear();
        return before;
    }

    int tunneller(int number, int what) {
        Person p = need(number);
        needWhat(what, 8);
        int first = p.orders.isEmpty() ? -1 : p.orders.getFirst();
        int[] answers = {p.x, p.y, p.posts, p.lamps, p.oil, p.orders.size(), first, p.buried ? 1 : 0, p.opened};
        return answers[what];
    }

    int pass(int ticks) {
        needRange(ticks, 1, 100);
        int opened = 0;
        for (int i = 0; i < ticks; i++) {
            opened += go();
        }
        return opened;
    }

    int count(int what) {
        needWhat(what, 8);
        int[] answers = {tick, people.size(), (int) people.stream().filter(p -> p.buried).count(), 0, 0, fallen,
            0, 0, traded};
        for (int x = 0; x < 16; x++) {
            for (int y = 0; y < 16; y++) {
                answers[3] += open(x, y) ? 1 : 0;
                answers[4] += post[x][y] ? 1 : 0;
                answers[6] += what == 6 && lit(x, y) ? 1 : 0;
                answers[7] += open(x, y) && !held(x, y) ? 1 : 0;
            }
        }
        return answers[what];
    }

    /** The least sums from a cell, bettered over all cells until nothing gets better. */
    private int[][] sums(int fromX, int fromY, boolean digging) {
        int[][] best = new int[16][16];
        for (int[] column : best) {
            java.util.Arrays.fill(column, FAR);
        }
        best[fromX][fromY] = cost(fromX, fromY, digging) - (digging ? 0 : 1);
        boolean better = true;
        while (better) {
            better = false;
            for (int x = 0; x < 16; x++) {
                for (int y = 0; y < 16; y++) {
                    int before = Math.min(Math.min(at(best, x - 1, y), at(best, x + 1, y)),
                        Math.min(at(best, x, y - 1), at(best, x, y + 1)));
                    if (before + cost(x, y, digging) < best[x][y]) {
                        best[x][y] = before + cost(x, y, digging);
                        better = true;
                    }
                }
            }
        }
        return best;
    }

    private static int at(int[][] best, int x, int y) {
        return inside(x, y) ? best[x][y] : FAR;
    }

    private int cost(int x, int y, boolean digging) {
        if (digging) {
            return sort[x][y] == 10 ? FAR : sort[x][y];
        }
        return sort[x][y] == 0 ? 1 : FAR;
    }

    private int least(int ax, int ay, int bx, int by, boolean digging) {
        needCell(ax, ay);
        needCell(bx, by);
        int sum = sums(ax, ay, digging)[bx][by];
        return sum >= FAR - 1 ? -1 : sum;
    }

    int way(int ax, int ay, int bx, int by) {
        return least(ax, ay, bx, by, false);
    }

    int dig(int ax, int ay, int bx, int by) {
        return least(ax, ay, bx, by, true);
    }

    /** Each open cell gets the smallest number of its cave. */
    private int[][] caveNumbers() {
        int[][] numbers = new int[16][16];
        for (int x = 0; x < 16; x++) {
            for (int y = 0; y < 16; y++) {
                numbers[x][y] = open(x, y) ? x * 16 + y : FAR;
            }
        }
        boolean smaller = true;
        while (smaller) {
            smaller = false;
            for (int x = 0; x < 16; x++) {
                for (int y = 0; y < 16; y++) {
                    int least = Math.min(Math.min(at(numbers, x - 1, y), at(numbers, x + 1, y)),
                        Math.min(at(numbers, x, y - 1), at(numbers, x, y + 1)));
                    if (open(x, y) && least < numbers[x][y]) {
                        numbers[x][y] = least;
                        smaller = true;
                    }
                }
            }
        }
        return numbers;
    }

    int caves(int what) {
        needWhat(what, 2);
        int[][] numbers = caveNumbers();
        int[] cells = new int[256];
        boolean[] peopled = new boolean[256];
        for (int x = 0; x < 16; x++) {
            for (int y = 0; y < 16; y++) {
                if (open(x, y)) {
                    cells[numbers[x][y]]++;
                }
            }
        }
        people.stream().filter(p -> !p.buried).forEach(p -> peopled[numbers[p.x][p.y]] = true);
        int[] answers = new int[3];
        for (int cave = 0; cave < 256; cave++) {
            answers[0] += cells[cave] > 0 ? 1 : 0;
            answers[1] = Math.max(answers[1], cells[cave]);
            answers[2] += peopled[cave] ? 1 : 0;
        }
        return answers[what];
    }

    int meet(int a, int b, int ticks) {
        need(a);
        need(b);
        needRange(a == b ? 0 : ticks, 1, 100);
        Model later = copy();
        for (int i = 0; i <= ticks; i++) {
            Person one = later.people.get(a);
            Person other = later.people.get(b);
            if (!one.buried && !other.buried && near(one, other)) {
                return i;
            }
            later.go();
        }
        return -1;
    }

    int foresee(int ticks, int what) {
        needRange(ticks, 1, 100);
        needWhat(what, 3);
        Model later = copy();
        later.pass(ticks);
        int[] answers = {later.count(2), later.count(3), later.people.stream().mapToInt(p -> p.oil).sum(),
            later.people.stream().mapToInt(p -> p.orders.size()).sum()};
        return answers[what];
    }

    int without(int x, int y) {
        needCell(x, y);
        if (!open(x, y)) {
            return -1;
        }
        Model shut = copy();
        shut.sort[x][y] = 10;
        shut.people.clear();
        return shut.caves(0);
    }

    double light() {
        int lit = 0;
        int all = 0;
        for (int x = 0; x < 16; x++) {
            for (int y = 0; y < 16; y++) {
                all += open(x, y) ? 1 : 0;
                lit += open(x, y) && lit(x, y) ? 1 : 0;
            }
        }
        return all == 0 ? 0.0 : (double) lit / all;
    }

    long digest() {
        long d = 509;
        for (int what = 0; what <= 8; what++) {
            d = d * 31 + count(what);
        }
        for (int y = 0; y < 16; y++) {
            for (int x = 0; x < 16; x++) {
                d = d * 31 + sort[x][y];
                d = d * 31 + (open(x, y) ? age[x][y] : 0);
                d = d * 31 + (post[x][y] ? 1 : 0);
            }
        }
        for (int number = 0; number < people.size(); number++) {
            for (int what = 0; what <= 8; what++) {
                d = d * 31 + tunneller(number, what);
            }
        }
        return d;
    }
}
