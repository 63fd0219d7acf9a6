/** Promises 13 to 17: meet, foresee, without, light, digest. */
public final class AheadTest {
    private static final Due due = new Due();

    public static void main(String[] args) {
        meetNow();
        meetLater();
        meetInPassing();
        meetNotBuried();
        foreseeTells();
        foreseeIsWhatComes();
        foreseeStartsAfresh();
        withoutCounts();
        lightShare();
        digestOfNew();
        digestOfAll();
        askingChangesNothing();
        due.end();
    }

    private static void meetNow() {
        int[] dx = {0, 0, 1, 0, -1};
        int[] dy = {0, -1, 0, 1, 0};
        for (int near = 0; near < 5; near++) {
            SnowMaze maze = new SnowMaze();
            maze.come(4, 4, 0, 0);
            maze.come(4 + dx[near], 4 + dy[near], 0, 0);
            due.is("together now", maze.meet(0, 1, 1), 0);
            due.is("together now", maze.meet(1, 0, 100), 0);
        }
        SnowMaze apart = new SnowMaze();
        apart.come(4, 4, 9, 0);
        apart.come(5, 5, 9, 0);
        apart.come(6, 4, 9, 0);
        apart.come(15, 4, 9, 0);
        apart.come(0, 5, 9, 0);
        due.is("corner to corner", apart.meet(0, 1, 100), -1);
        due.is("two steps off", apart.meet(0, 2, 100), -1);
        due.is("the rows' ends", apart.meet(3, 4, 100), -1);
    }

    private static void meetLater() {
        SnowMaze maze = new SnowMaze();
        maze.come(2, 4, 1, 0);
        maze.come(8, 4, 1, 0);
        for (int x = 3; x < 8; x++) {
            maze.lay(x, 4, 0);
        }
        maze.order(0, 1, 5);
        due.is("behind 5 ticks", maze.meet(0, 1, 5), 5);
        due.is("not within 4 ticks", maze.meet(0, 1, 4), -1);
        due.is("the other way round", maze.meet(1, 0, 100), 5);
        maze.pass(2);
        due.is("two ticks later", maze.meet(0, 1, 3), 3);
        due.is("not within 2 ticks", maze.meet(0, 1, 2), -1);
        SnowMaze asked = throughHardSnow();
        SnowMaze passed = throughHardSnow();
        int ticks = 0;
        while (ticks < 100 && passed.tunneller(0, 0) < 6) {
            passed.pass(1);
            ticks++;
        }
        due.is("through hard snow", ticks, 3 * 9);
        due.is("through hard snow", asked.meet(0, 1, 100), ticks);
    }

    private static SnowMaze throughHardSnow() {
        SnowMaze maze = new SnowMaze();
        maze.come(3, 2, 1, 9);
        maze.come(7, 2, 1, 9);
        for (int x = 4; x < 7; x++) {
            maze.lay(x, 2, 9);
        }
        maze.order(0, 1, 9);
        maze.order(1, 4, 1);
        return maze;
    }

    private static void meetInPassing() {
        SnowMaze maze = new SnowMaze();
        for (int x = 0; x < 16; x++) {
            maze.lay(x, 4, 0);
        }
        maze.come(2, 4, 0, 0);
        maze.come(9, 4, 0, 0);
        maze.order(0, 1, 9);
        maze.order(1, 3, 7);
        due.is("the first time only", maze.meet(0, 1, 100), 3);
        maze.pass(4);
        due.is("still together", maze.meet(0, 1, 100), 0);
        maze.pass(1);
        due.is("past each other", maze.meet(0, 1, 100), -1);
    }

    private static void meetNotBuried() {
        SnowMaze maze = new SnowMaze();
        maze.come(4, 4, 0, 1);
        maze.pass(12);
        maze.come(5, 4, 1, 1);
        due.is("beside a buried one", maze.meet(0, 1, 10), -1);
        due.is("beside a buried one", maze.meet(1, 0, 10), -1);
        maze.order(1, 5, 2);
        maze.order(1, 3, 1);
        due.is("when this one is dug free", maze.meet(0, 1, 10), 4);
        due.is("nothing is changed", maze.tunneller(0, 7), 1);
    }

    private static void foreseeTells() {
        SnowMaze maze = new SnowMaze();
        maze.come(4, 4, 1, 2);
        maze.come(9, 9, 0, 1);
        maze.order(0, 4, 1);
        maze.order(0, 1, 2);
        maze.order(0, 5, 9);
        maze.order(1, 5, 9);
        maze.order(1, 5, 9);
        due.is("buried behind 11 ticks", maze.foresee(11, 0), 0);
        due.is("buried behind 12 ticks", maze.foresee(12, 0), 1);
        due.is("open behind 3 ticks", maze.foresee(3, 1), 2);
        due.is("open behind 4 ticks", maze.foresee(4, 1), 3);
        due.is("open behind 7 ticks", maze.foresee(7, 1), 4);
        due.is("open behind 12 ticks", maze.foresee(12, 1), 3);
        due.is("oil behind 1 tick", maze.foresee(1, 2), 120);
        due.is("oil behind 12 ticks", maze.foresee(12, 2), 98);
        due.is("oil behind 60 ticks", maze.foresee(60, 2), 1 + 49);
        due.is("oil behind 61 ticks", maze.foresee(61, 2), 60 + 49);
        due.is("orders behind 1 tick", maze.foresee(1, 3), 11 + 17);
        due.is("orders behind 7 ticks", maze.foresee(7, 3), 9 + 11);
        due.is("orders behind 100 ticks", maze.foresee(100, 3), 6);
        due.is("nothing is changed", maze.count(0), 0);
    }

    private static void foreseeIsWhatComes() {
        SnowMaze asked = Mazes.full();
        SnowMaze passed = Mazes.full();
        passed.pass(1);
        for (int ticks = 1; ticks <= 100; ticks += 5) {
            due.is("buried", asked.foresee(ticks, 0), passed.count(2));
            due.is("open", asked.foresee(ticks, 1), passed.count(3));
            int oil = 0;
            int orders = 0;
            for (int number = 0; number < 8; number++) {
                oil += passed.tunneller(number, 4);
                orders += passed.tunneller(number, 5);
            }
            due.is("oil", asked.foresee(ticks, 2), oil);
            due.is("orders", asked.foresee(ticks, 3), orders);
            passed.pass(5);
        }
        due.alike("nothing is changed", asked, Mazes.full());
    }

    /** What was foreseen before leaves nothing behind, neither for the next look nor for the calls. */
    private static void foreseeStartsAfresh() {
        SnowMaze maze = new SnowMaze();
        maze.come(4, 4, 1, 3);
        maze.order(0, 4, 1);
        maze.order(0, 1, 1);
        maze.pass(1);
        due.is("a post that stands holds", maze.foresee(50, 1), 2);
        maze.lay(12, 12, 0);
        maze.come(9, 9, 0, 1);
        maze.order(1, 5, 4);
        due.is("open behind 11 ticks", maze.foresee(11, 1), 4);
        due.is("open behind 12 ticks", maze.foresee(12, 1), 2);
        due.is("buried", maze.foresee(12, 0), 1);
        due.is("orders", maze.foresee(2, 3), 3);
        due.is("orders, once more", maze.foresee(2, 3), 3);
        due.is("they do not meet", maze.meet(0, 1, 100), -1);
        maze.call(1);
        due.is("orders taken back", maze.foresee(2, 3), 1);
        maze.lay(9, 8, 10);
        maze.come(9, 9, 0, 0);
        due.is("buried with the new one", maze.foresee(12, 0), 2);
        due.is("they stand together", maze.meet(1, 2, 1), 0);
        maze.pass(3);
        due.is("the ice stays", maze.cell(9, 8, 0), 10);
        due.is("tick", maze.count(0), 4);
    }

    private static void withoutCounts() {
        SnowMaze maze = new SnowMaze();
        due.is("snow", maze.without(4, 4), -1);
        maze.lay(4, 4, 10);
        due.is("ice", maze.without(4, 4), -1);
        maze.lay(4, 4, 0);
        due.is("the only cell", maze.without(4, 4), 0);
        maze.lay(5, 4, 0);
        due.is("an end", maze.without(4, 4), 1);
        maze.lay(3, 4, 0);
        maze.lay(4, 3, 0);
        maze.lay(4, 5, 0);
        due.is("the middle of a cross", maze.without(4, 4), 4);
        due.is("an arm of a cross", maze.without(4, 3), 1);
        maze.lay(0, 0, 0);
        due.is("the middle, and one apart", maze.without(4, 4), 5);
        due.is("the one apart", maze.without(0, 0), 1);
        maze.lay(3, 3, 0);
        due.is("two arms hang together", maze.without(4, 4), 4);
        due.is("nothing is changed", maze.cell(4, 4, 0), 0);
        due.is("caves as before", maze.caves(0), 2);
        SnowMaze tunneller = new SnowMaze();
        tunneller.come(4, 4, 0, 0);
        due.is("where somebody stands", tunneller.without(4, 4), 0);
        SnowMaze last = new SnowMaze();
        last.lay(15, 15, 0);
        last.lay(0, 15, 0);
        due.is("the last cell", last.without(15, 15), 1);
        due.is("the last row's first cell", last.without(0, 15), 1);
    }

    private static void lightShare() {
        SnowMaze maze = new SnowMaze();
        maze.lay(0, 0, 0);
        due.isDouble("dark", maze.light(), 0.0);
        maze.come(4, 4, 0, 1);
        due.isDouble("no oil yet", maze.light(), 0.0);
        maze.pass(1);
        due.isDouble("one of two", maze.light(), 0.5);
        maze.lay(0, 1, 0);
        due.isDouble("one of three", maze.light(), 1.0 / 3.0);
        maze.lay(5, 4, 0);
        maze.lay(6, 4, 0);
        maze.lay(7, 4, 0);
        maze.lay(8, 4, 0);
        due.isDouble("four of seven", maze.light(), 4.0 / 7.0);
        maze.pass(11);
        due.isDouble("the buried one's light is gone", maze.light(), 0.0);
        SnowMaze whole = new SnowMaze();
        whole.come(4, 4, 0, 1);
        whole.pass(1);
        due.isDouble("all", whole.light(), 1.0);
    }

    private static long digested(long[] numbers) {
        long sum = 509;
        for (long number : numbers) {
            sum = sum * 31 + number;
        }
        return sum;
    }

    private static void digestOfNew() {
        long[] numbers = new long[9 + 3 * 256];
        for (int place = 0; place < 256; place++) {
            numbers[9 + 3 * place] = 3;
        }
        due.is("digest of a new one", new SnowMaze().digest(), digested(numbers));
    }

    private static SnowMaze fullMazeAt(int tick) {
        SnowMaze maze = Mazes.full();
        maze.pass(tick);
        return maze;
    }

    /** Each row is read from an object of its own, since an object is used for 512 calls at most. */
    private static void digestOfAll() {
        for (int tick = 1; tick <= 100; tick += 9) {
            long[] numbers = new long[9 + 3 * 256 + 9 * 8];
            SnowMaze maze = fullMazeAt(tick);
            int at = 0;
            for (int what = 0; what <= 8; what++) {
                numbers[at++] = maze.count(what);
            }
            for (int y = 0; y < 16; y++) {
                SnowMaze row = fullMazeAt(tick);
                for (int x = 0; x < 16; x++) {
                    for (int what = 0; what <= 2; what++) {
                        numbers[at++] = row.cell(x, y, what);
                    }
                }
            }
            for (int number = 0; number < 8; number++) {
                for (int what = 0; what <= 8; what++) {
                    numbers[at++] = maze.tunneller(number, what);
                }
            }
            due.is("digest at the tick " + tick, maze.digest(), digested(numbers));
        }
    }

    private static void askingChangesNothing() {
        SnowMaze asked = Mazes.full();
        asked.cell(9, 9, 4);
        asked.tunneller(1, 6);
        asked.count(6);
        asked.way(6, 6, 7, 6);
        asked.dig(2, 2, 15, 15);
        asked.caves(1);
        asked.meet(1, 2, 100);
        asked.without(6, 6);
        asked.light();
        asked.digest();
        for (int what = 0; what <= 3; what++) {
            asked.foresee(100, what);
        }
        due.alike("whether asked or not", asked, Mazes.full());
    }
}
