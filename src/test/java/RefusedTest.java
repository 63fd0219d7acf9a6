/**
 * The calls that are refused, sentence by sentence of the document; each one on a maze of its own, which must go on
 * then like one that was never asked.
 */
public final class RefusedTest {
    private static final Due due = new Due();
    private static final int[] NO_COLUMN = {-1, 16, -16, 255, 256, Integer.MIN_VALUE, Integer.MAX_VALUE};

    public static void main(String[] args) {
        layOutside();
        layNoSort();
        layOnTunneller();
        cellOutside();
        cellNoFact();
        comeOutside();
        comeTooManyThings();
        comeOntoIce();
        comeOntoTheBuried();
        comeNinth();
        orderNobody();
        orderNoOrder();
        orderNoTimes();
        orderRowFull();
        callNobody();
        tunnellerNobody();
        tunnellerNoFact();
        passNoTicks();
        countNoFact();
        wayOutside();
        digOutside();
        cavesNoFact();
        meetNobody();
        meetOneself();
        meetNoTicks();
        foreseeNoTicks();
        foreseeNoFact();
        withoutOutside();
        insideIsNotRefused();
        due.end();
    }

    /** What lies just outside of a range, and far off. */
    private static int[] outside(int least, int most) {
        return new int[] {least - 1, most + 1, least - 256, most + 256, Integer.MIN_VALUE, Integer.MAX_VALUE};
    }

    private interface Place {
        int ask(SnowMaze maze, int x, int y);
    }

    /** A call that names a cell: no such column, no such row, and neither. */
    private static void noCell(String call, Place asking) {
        for (int bad : NO_COLUMN) {
            due.bounds(Mazes::busy, call + " in the column " + bad, m -> asking.ask(m, bad, 2));
            due.bounds(Mazes::busy, call + " in the row " + bad, m -> asking.ask(m, 2, bad));
            due.bounds(Mazes::busy, call + " in both " + bad, m -> asking.ask(m, bad, bad));
        }
    }

    private interface Crew {
        int ask(SnowMaze maze, int tunneller);
    }

    /** A call that names a tunneller: nobody at all, one more than there are, and one more than there can be. */
    private static void nobody(String call, Crew asking) {
        due.bounds(SnowMaze::new, call + " where nobody is", m -> asking.ask(m, 0));
        for (int bad : new int[] {-1, 3, 4, 7, 8, Integer.MIN_VALUE, Integer.MAX_VALUE}) {
            due.bounds(Mazes::busy, call + " of " + bad + ", of three", m -> asking.ask(m, bad));
        }
        for (int bad : outside(0, 7)) {
            due.bounds(Mazes::full, call + " of " + bad + ", of eight", m -> asking.ask(m, bad));
        }
    }

    // ---- Promise 2: lay

    /** IndexOutOfBoundsException if there is no such cell; it is named ahead of a wrong sort. */
    private static void layOutside() {
        for (int sort : new int[] {0, 10, -1, 11}) {
            noCell("lay of " + sort, (m, x, y) -> m.lay(x, y, sort));
        }
    }

    /** IllegalArgumentException if sort is not 0 to 10; it is named ahead of a tunneller there. */
    private static void layNoSort() {
        for (int bad : outside(0, 10)) {
            due.argument(Mazes::busy, "lay " + bad, m -> m.lay(5, 5, bad));
            due.argument(Mazes::busy, "lay " + bad + " where somebody stands", m -> m.lay(2, 2, bad));
            due.argument(Mazes::busy, "lay " + bad + " where somebody is buried", m -> m.lay(9, 9, bad));
        }
    }

    /** IllegalStateException if a tunneller is there, also one who is buried. */
    private static void layOnTunneller() {
        for (int sort = 0; sort <= 10; sort++) {
            int laid = sort;
            due.state(Mazes::busy, "lay " + sort + " where somebody stands", m -> m.lay(12, 3, laid));
            due.state(Mazes::busy, "lay " + sort + " where somebody is buried", m -> m.lay(9, 9, laid));
            due.state(Mazes::full, "lay " + sort + " where five stand", m -> m.lay(10, 12, laid));
        }
        due.state(RefusedTest::walked, "lay where somebody went", m -> m.lay(8, 9, 3));
    }

    private static SnowMaze walked() {
        SnowMaze maze = new SnowMaze();
        maze.come(8, 8, 0, 0);
        maze.lay(8, 9, 0);
        maze.order(0, 2, 1);
        maze.pass(1);
        return maze;
    }

    // ---- Promise 3: cell

    /** IndexOutOfBoundsException if there is no such cell, or what is not 0 to 5. */
    private static void cellOutside() {
        for (int what : new int[] {0, 1, 2, 3, 4, 5, 6}) {
            noCell("cell " + what, (m, x, y) -> m.cell(x, y, what));
        }
    }

    private static void cellNoFact() {
        for (int bad : outside(0, 5)) {
            due.bounds(Mazes::busy, "cell " + bad + " of an open one", m -> m.cell(2, 2, bad));
            due.bounds(Mazes::busy, "cell " + bad + " of ice", m -> m.cell(0, 0, bad));
        }
    }

    // ---- Promise 4: come

    /** IndexOutOfBoundsException if there is no such cell; it is named first. */
    private static void comeOutside() {
        noCell("come", (m, x, y) -> m.come(x, y, 1, 1));
        noCell("come with too much", (m, x, y) -> m.come(x, y, 21, 10));
        due.bounds(Mazes::full, "a ninth outside", m -> m.come(1, 16, 0, 0));
    }

    /** IllegalArgumentException if posts is not 0 to 20, or lamps is not 0 to 9; it is named ahead of the state. */
    private static void comeTooManyThings() {
        for (int bad : outside(0, 20)) {
            due.argument(Mazes::busy, "come with posts " + bad, m -> m.come(5, 5, bad, 0));
            due.argument(Mazes::busy, "come onto ice with posts " + bad, m -> m.come(0, 0, bad, 0));
            due.argument(Mazes::busy, "come onto the buried with posts " + bad, m -> m.come(9, 9, bad, 0));
            due.argument(Mazes::full, "a ninth with posts " + bad, m -> m.come(5, 5, bad, 0));
        }
        for (int bad : outside(0, 9)) {
            due.argument(Mazes::busy, "come with lamps " + bad, m -> m.come(5, 5, 0, bad));
            due.argument(Mazes::busy, "come onto ice with lamps " + bad, m -> m.come(0, 0, 0, bad));
            due.argument(Mazes::busy, "come onto the buried with lamps " + bad, m -> m.come(9, 9, 0, bad));
            due.argument(Mazes::full, "a ninth with lamps " + bad, m -> m.come(5, 5, 0, bad));
        }
        due.argument(Mazes::busy, "come with lamps for posts", m -> m.come(5, 5, 9, 20));
    }

    /** IllegalStateException if the cell is ice ... */
    private static void comeOntoIce() {
        due.state(Mazes::busy, "come onto ice", m -> m.come(0, 0, 0, 0));
        due.state(Mazes::full, "a ninth onto ice", m -> m.come(0, 0, 20, 9));
    }

    /** ... somebody is buried there ... */
    private static void comeOntoTheBuried() {
        due.state(Mazes::busy, "come where somebody is buried", m -> m.come(9, 9, 0, 0));
        due.state(Mazes::full, "a ninth where somebody is buried", m -> m.come(9, 9, 20, 9));
    }

    /** ... or there are 8. */
    private static void comeNinth() {
        due.state(Mazes::full, "a ninth into snow", m -> m.come(5, 5, 0, 0));
        due.state(Mazes::full, "a ninth onto an open cell", m -> m.come(6, 6, 20, 9));
        due.state(Mazes::full, "a ninth where others stand", m -> m.come(10, 12, 1, 1));
    }

    // ---- Promise 5: order

    /** IndexOutOfBoundsException if there is no such tunneller; it is named first. */
    private static void orderNobody() {
        nobody("order", (m, number) -> m.order(number, 0, 1));
        nobody("order 7", (m, number) -> m.order(number, 7, 1));
        nobody("order ten times", (m, number) -> m.order(number, 0, 10));
    }

    /** IllegalArgumentException if order is not 0 to 6; it is named ahead of a full row. */
    private static void orderNoOrder() {
        for (int bad : outside(0, 6)) {
            due.argument(Mazes::busy, "order " + bad, m -> m.order(1, bad, 1));
            due.argument(Mazes::busy, "order " + bad + " for a buried one", m -> m.order(0, bad, 9));
            due.argument(Mazes::busy, "order " + bad + " behind a full row", m -> m.order(2, bad, 1));
        }
    }

    /** IllegalArgumentException if times is not 1 to 9; it is named ahead of a full row. */
    private static void orderNoTimes() {
        for (int bad : outside(1, 9)) {
            due.argument(Mazes::busy, "order, times " + bad, m -> m.order(0, 5, bad));
            due.argument(Mazes::busy, "order behind 18, times " + bad, m -> m.order(1, 5, bad));
            due.argument(Mazes::busy, "order behind a full row, times " + bad, m -> m.order(2, 5, bad));
        }
    }

    /** IllegalStateException if there would be more than 24. */
    private static void orderRowFull() {
        for (int order = 0; order <= 6; order++) {
            int laid = order;
            due.state(Mazes::busy, "order " + order + ", the 25th", m -> m.order(2, laid, 1));
            due.state(Mazes::busy, "order " + order + ", nine too many", m -> m.order(2, laid, 9));
        }
        for (int times = 7; times <= 9; times++) {
            int many = times;
            due.state(Mazes::busy, "order behind 18, times " + times, m -> m.order(1, 5, many));
        }
        due.is("6 behind 18", Mazes.busy().order(1, 5, 6), 24);
    }

    // ---- Promises 6 and 7: call, tunneller

    /** IndexOutOfBoundsException if there is no such tunneller. */
    private static void callNobody() {
        nobody("call", (m, number) -> m.call(number));
    }

    /** IndexOutOfBoundsException if there is no such tunneller, or what is not 0 to 8. */
    private static void tunnellerNobody() {
        for (int what : new int[] {0, 5, 6, 8, 9}) {
            nobody("tunneller " + what, (m, number) -> m.tunneller(number, what));
        }
    }

    private static void tunnellerNoFact() {
        for (int bad : outside(0, 8)) {
            due.bounds(Mazes::busy, "tunneller " + bad, m -> m.tunneller(1, bad));
            due.bounds(Mazes::busy, "tunneller " + bad + " of a buried one", m -> m.tunneller(0, bad));
        }
    }

    // ---- Promises 8 and 9: pass, count

    /** IllegalArgumentException if ticks is not 1 to 100. */
    private static void passNoTicks() {
        for (int bad : outside(1, 100)) {
            due.argument(Mazes::busy, "pass " + bad, m -> m.pass(bad));
            due.argument(SnowMaze::new, "pass " + bad + " where nobody is", m -> m.pass(bad));
        }
    }

    /** IndexOutOfBoundsException if what is not 0 to 8. */
    private static void countNoFact() {
        for (int bad : outside(0, 8)) {
            due.bounds(Mazes::busy, "count " + bad, m -> m.count(bad));
        }
    }

    // ---- Promises 10 to 12: way, dig, caves

    /** IndexOutOfBoundsException if there is no such cell, be it the one or the other. */
    private static void wayOutside() {
        noCell("way from", (m, x, y) -> m.way(x, y, 6, 6));
        noCell("way to", (m, x, y) -> m.way(6, 6, x, y));
        noCell("way from snow to", (m, x, y) -> m.way(5, 5, x, y));
        noCell("way from and to", (m, x, y) -> m.way(x, y, x, y));
    }

    /** IndexOutOfBoundsException if there is no such cell, be it the one or the other. */
    private static void digOutside() {
        noCell("dig from", (m, x, y) -> m.dig(x, y, 6, 6));
        noCell("dig to", (m, x, y) -> m.dig(6, 6, x, y));
        noCell("dig from ice to", (m, x, y) -> m.dig(0, 0, x, y));
        noCell("dig from and to", (m, x, y) -> m.dig(x, y, x, y));
    }

    /** IndexOutOfBoundsException if what is not 0 to 2. */
    private static void cavesNoFact() {
        for (int bad : outside(0, 2)) {
            due.bounds(Mazes::busy, "caves " + bad, m -> m.caves(bad));
            due.bounds(SnowMaze::new, "caves " + bad + " where none is", m -> m.caves(bad));
        }
    }

    // ---- Promise 13: meet

    /** IndexOutOfBoundsException if there is no such tunneller; it is named first. */
    private static void meetNobody() {
        nobody("meet, the one", (m, number) -> m.meet(number, 0, 1));
        nobody("meet, the other", (m, number) -> m.meet(0, number, 1));
        nobody("meet oneself", (m, number) -> m.meet(number, number, 1));
        nobody("meet in no tick", (m, number) -> m.meet(0, number, 0));
    }

    /** IllegalArgumentException if both are the same ... */
    private static void meetOneself() {
        for (int number = 0; number < 8; number++) {
            int one = number;
            due.argument(Mazes::full, "meet oneself, " + number, m -> m.meet(one, one, 1));
            due.argument(Mazes::full, "meet oneself in 101 ticks, " + number, m -> m.meet(one, one, 101));
        }
    }

    /** ... or ticks is not 1 to 100, even if they stand together now. */
    private static void meetNoTicks() {
        for (int bad : outside(1, 100)) {
            due.argument(Mazes::full, "meet, ticks " + bad, m -> m.meet(1, 2, bad));
            due.argument(Mazes::full, "meet who is here, ticks " + bad, m -> m.meet(3, 4, bad));
            due.argument(Mazes::full, "meet a buried one, ticks " + bad, m -> m.meet(0, 1, bad));
        }
    }

    // ---- Promises 14 and 15: foresee, without

    /** IllegalArgumentException if ticks is not 1 to 100; it is named ahead of what. */
    private static void foreseeNoTicks() {
        for (int bad : outside(1, 100)) {
            for (int what = -1; what <= 4; what++) {
                int asked = what;
                due.argument(Mazes::busy, "foresee " + what + ", ticks " + bad, m -> m.foresee(bad, asked));
            }
        }
    }

    /** IndexOutOfBoundsException if what is not 0 to 3. */
    private static void foreseeNoFact() {
        for (int bad : outside(0, 3)) {
            due.bounds(Mazes::busy, "foresee " + bad + " behind 1", m -> m.foresee(1, bad));
            due.bounds(Mazes::busy, "foresee " + bad + " behind 100", m -> m.foresee(100, bad));
        }
    }

    /** IndexOutOfBoundsException if there is no such cell. */
    private static void withoutOutside() {
        noCell("without", (m, x, y) -> m.without(x, y));
    }

    // ---- what is just inside

    /** The least and the most that the document allows, for each argument, throw nothing. */
    private static void insideIsNotRefused() {
        for (int corner = 0; corner < 4; corner++) {
            int x = corner % 2 * 15;
            int y = corner / 2 * 15;
            SnowMaze maze = new SnowMaze();
            due.is("lay 10", maze.lay(x, y, 10), 3);
            due.is("lay 0", maze.lay(x, y, 0), 10);
            due.is("cell 0", maze.cell(x, y, 0), 0);
            due.is("come with nothing", maze.come(x, y, 0, 0), 0);
            due.is("come with most", maze.come(x, y, 20, 9), 1);
            due.is("cell 5", maze.cell(x, y, 5), 2);
            due.is("way", maze.way(x, y, x, y), 0);
            due.is("dig", maze.dig(x, y, 15 - x, 15 - y), 90);
            due.is("without", maze.without(x, y), 0);
        }
        SnowMaze maze = Mazes.full();
        due.is("tunneller 0", maze.tunneller(0, 0), 9);
        due.is("tunneller 8", maze.tunneller(7, 8), 0);
        due.is("count 0", maze.count(0), 14);
        due.is("count 8", maze.count(8), 0);
        due.is("caves 0", maze.caves(0), 4);
        due.is("caves 2", maze.caves(2), 3);
        due.is("order 6, 9 times", maze.order(0, 6, 9), 11);
        due.is("order 0, once", maze.order(7, 0, 1), 8);
        due.is("call", maze.call(7), 8);
        due.is("meet in 1 tick", maze.meet(7, 0, 1), -1);
        due.is("meet in 100 ticks", maze.meet(0, 7, 100), -1);
        due.is("foresee 0 behind 1", maze.foresee(1, 0), 1);
        due.is("foresee 3 behind 1", maze.foresee(1, 3), 11 + 18 + 23 + 3 + 4 + 5 + 6);
        due.is("pass 1", maze.pass(1), 0);
        maze.pass(100);
        due.is("pass 100", maze.count(0), 115);
    }
}
