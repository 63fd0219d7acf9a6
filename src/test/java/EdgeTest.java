import java.math.BigInteger;

/**
 * What is too small, too large, empty, full or wraps around, sentence by sentence of the document, where a call is not
 * refused for it; for those that are refused see RefusedTest.
 */
public final class EdgeTest {
    private static final Due due = new Due();

    public static void main(String[] args) {
        emptyMaze();
        emptyMazeGoesOn();
        fullSnowOpen();
        fullSnowOfIce();
        eightTunnellers();
        sevenAreFreed();
        twentyPosts();
        rowOf24();
        noOrderLeft();
        oilOfTheLastLamp();
        oilOfTheFreed();
        lightAtThreeSteps();
        litCellsCountOnce();
        droppedInTheDark();
        lightOnTheSnowIsNotEnough();
        deedsInTheDark();
        tradeAlone();
        tradeJustEnough();
        agesWithoutEnd();
        oldRoofLosesItsPost();
        sameCellComesDownTwice();
        buriedDoesNothing();
        callOfTheBuried();
        hundredTicks();
        meetAtTheLastTick();
        longDigging();
        openedIn24Orders();
        digestWrapsAround();
        due.end();
    }

    // ---- empty

    /** Promise 1: without open cells, ice and tunnellers, at the tick 0; and what the calls tell of nothing. */
    private static void emptyMaze() {
        SnowMaze maze = new SnowMaze();
        due.is("no way in snow", maze.way(0, 0, 0, 0), -1);
        due.is("no way through snow", maze.way(0, 0, 15, 15), -1);
        due.is("all is to be dug", maze.dig(0, 0, 15, 15), 31 * 3);
        due.is("no cave", maze.caves(0), 0);
        due.is("no largest one", maze.caves(1), 0);
        due.is("none with somebody", maze.caves(2), 0);
        due.is("without what is not open", maze.without(0, 0), -1);
        due.isDouble("light of no open cell", maze.light(), 0.0);
        for (int what = 0; what <= 3; what++) {
            due.is("foreseen of nothing " + what, maze.foresee(1, what), 0);
            due.is("foreseen of nothing " + what, maze.foresee(100, what), 0);
        }
    }

    private static void emptyMazeGoesOn() {
        SnowMaze maze = new SnowMaze();
        due.is("nobody digs", maze.pass(100), 0);
        int[] want = {100, 0, 0, 0, 0, 0, 0, 0, 0};
        for (int what = 0; what <= 8; what++) {
            due.is("count " + what + " of nothing", maze.count(what), want[what]);
        }
        due.is("snow stays", maze.cell(0, 0, 0), 3);
        due.is("snow stays", maze.cell(15, 15, 0), 3);
    }

    // ---- full

    private static SnowMaze all(int sort) {
        SnowMaze maze = new SnowMaze();
        for (int y = 0; y < 16; y++) {
            for (int x = 0; x < 16; x++) {
                maze.lay(x, y, sort);
            }
        }
        return maze;
    }

    /** The snow has 256 cells; all can be open, be lit and come down. */
    private static void fullSnowOpen() {
        SnowMaze maze = all(0);
        due.is("open cells", maze.count(3), 256);
        due.is("none is held", maze.count(7), 256);
        due.is("largest cave", maze.caves(1), 256);
        due.is("without a corner", maze.without(0, 15), 1);
        for (int number = 0; number < 8; number++) {
            maze.come(number % 2 * 8 + 3, number / 2 * 4 + 1, 1, 1);
            maze.order(number, 4, 1);
        }
        maze.pass(1);
        int lit = 0;
        int held = 0;
        for (int y = 0; y < 16; y++) {
            for (int x = 0; x < 16; x++) {
                int steps = Math.min(Math.abs(x - 3), Math.abs(x - 11));
                int least = 99;
                for (int row = 1; row < 16; row += 4) {
                    least = Math.min(least, steps + Math.abs(y - row));
                }
                lit += least <= 3 ? 1 : 0;
                held += least <= 2 ? 1 : 0;
            }
        }
        due.is("lit", maze.count(6), lit);
        due.is("not held", maze.count(7), 256 - held);
        due.isDouble("light", maze.light(), lit / 256.0);
        maze.pass(11);
        due.is("came down", maze.count(5), 256 - held);
        due.is("held ones stay", maze.count(3), held);
        SnowMaze fallen = all(0);
        fallen.pass(12);
        due.is("all came down", fallen.count(5), 256);
        due.is("none is open", fallen.count(3), 0);
        due.isDouble("no light", fallen.light(), 0.0);
    }

    /** Ice is never dug, never lit, no way and no cave. */
    private static void fullSnowOfIce() {
        SnowMaze maze = all(10);
        due.is("nothing to dig through", maze.dig(0, 0, 0, 1), -1);
        due.is("nor at one cell", maze.dig(7, 7, 7, 7), -1);
        due.is("no cave", maze.caves(0), 0);
        due.isDouble("no light", maze.light(), 0.0);
        maze.lay(7, 7, 0);
        maze.come(7, 7, 1, 1);
        maze.order(0, 4, 1);
        for (int direction = 0; direction < 4; direction++) {
            maze.order(0, direction, 1);
        }
        due.is("ice is never dug", maze.pass(5), 0);
        due.is("all steps are dropped", maze.tunneller(0, 5), 0);
        due.is("lit, ice never", maze.count(6), 1);
        due.isDouble("all that is open is lit", maze.light(), 1.0);
        due.is("closed in", maze.dig(7, 7, 8, 7), -1);
        due.is("within", maze.dig(7, 7, 7, 7), 0);
        due.is("cave without its only cell", maze.without(7, 7), 0);
    }

    /** There are at most 8, also all on one cell. */
    private static void eightTunnellers() {
        SnowMaze maze = new SnowMaze();
        for (int number = 0; number < 8; number++) {
            due.is("come", maze.come(15, 15, number, 9 - number), number);
        }
        due.is("tunnellers", maze.count(1), 8);
        due.is("there", maze.cell(15, 15, 5), 8);
        due.is("one cave with somebody", maze.caves(2), 1);
        due.is("the first and the last are together", maze.meet(0, 7, 1), 0);
        maze.order(7, 6, 1);
        maze.pass(1);
        due.is("traded with the smallest number", maze.tunneller(0, 3), 7);
        due.is("traded", maze.tunneller(7, 3), 2);
        due.is("buried then", maze.foresee(11, 0), 8);
        due.is("oil then", maze.foresee(11, 2), 8 * 49);
        maze.pass(11);
        due.is("buried", maze.count(2), 8);
        due.is("there", maze.cell(15, 15, 5), 8);
        due.is("nobody is left", maze.caves(2), 0);
        due.is("lit", maze.count(6), 0);
        due.is("who is buried meets nobody", maze.meet(0, 7, 100), -1);
    }

    /** If a cell is dug open by another one, all who are buried there are free again. */
    private static void sevenAreFreed() {
        SnowMaze maze = new SnowMaze();
        for (int number = 0; number < 7; number++) {
            maze.come(0, 0, 0, 2);
        }
        maze.pass(12);
        maze.come(1, 0, 0, 1);
        maze.order(7, 3, 1);
        for (int number = 0; number < 7; number++) {
            maze.order(number, 5, 3);
        }
        due.is("not yet", maze.pass(1), 0);
        due.is("buried", maze.count(2), 7);
        due.is("dug open", maze.pass(1), 1);
        due.is("buried", maze.count(2), 0);
        due.is("opened by the eighth", maze.tunneller(7, 8), 1);
        due.is("all there", maze.cell(0, 0, 5), 8);
        maze.pass(1);
        for (int number = 0; number < 7; number++) {
            due.is("goes on with the orders", maze.tunneller(number, 5), 2);
            due.is("goes on with the oil", maze.tunneller(number, 4), 48);
            due.is("keeps the lamp", maze.tunneller(number, 3), 1);
        }
        maze.call(6);
        maze.order(6, 2, 1);
        due.is("digs again", maze.pass(3), 1);
        due.is("opened by the seventh", maze.tunneller(6, 8), 1);
    }

    /** Posts, 0 to 20: all are set, one a cell, and the last one too. */
    private static void twentyPosts() {
        SnowMaze maze = new SnowMaze();
        maze.come(0, 5, 20, 0);
        for (int i = 0; i < 21; i++) {
            maze.order(0, 4, 1);
            maze.order(0, i < 15 ? 1 : 2, 1);
            maze.pass(1);
            due.is("posts left", maze.tunneller(0, 2), Math.max(0, 19 - i));
            due.is("posts in the snow", maze.count(4), Math.min(20, i + 1));
            maze.lay(Math.min(15, i + 1), Math.max(5, i - 9), 0);
            maze.pass(1);
        }
        due.is("the last cell has none", maze.cell(15, 10, 2), 0);
    }

    /** A row of at most 24 orders, done from the first to the last one; behind each tick one more fits. */
    private static void rowOf24() {
        SnowMaze maze = new SnowMaze();
        maze.come(7, 7, 1, 0);
        maze.order(0, 4, 1);
        maze.pass(1);
        int[] row = new int[48];
        for (int i = 0; i < 48; i++) {
            row[i] = i % 5 < 2 ? 4 : 5;
        }
        for (int i = 0; i < 24; i++) {
            due.is("orders", maze.order(0, row[i], 1), i + 1);
        }
        for (int i = 0; i < 48; i++) {
            due.is("first order " + i, maze.tunneller(0, 6), row[i]);
            maze.pass(1);
            due.is("one less", maze.tunneller(0, 5), i < 24 ? 23 : 47 - i);
            if (i < 24) {
                due.is("one more fits", maze.order(0, row[24 + i], 1), 24);
            }
        }
        due.is("all are done", maze.tunneller(0, 6), -1);
    }

    /** Promise 7: the first of the orders, -1 if there is none; and a tick without an order does nothing. */
    private static void noOrderLeft() {
        SnowMaze maze = new SnowMaze();
        maze.come(7, 7, 1, 1);
        due.is("none", maze.tunneller(0, 6), -1);
        due.is("nothing is done", maze.pass(1), 0);
        int[] want = {7, 7, 1, 0, 60, 0, -1, 0, 0};
        for (int what = 0; what <= 8; what++) {
            due.is("without an order " + what, maze.tunneller(0, what), want[what]);
        }
        due.is("order 0 is one", maze.order(0, 0, 1), 1);
        due.is("the first one", maze.tunneller(0, 6), 0);
    }

    // ---- oil and light

    /** Whoever has none then, and has a lamp, lights it: until no lamp is left. */
    private static void oilOfTheLastLamp() {
        SnowMaze maze = new SnowMaze();
        maze.come(7, 7, 1, 9);
        maze.order(0, 4, 1);
        for (int lamp = 0; lamp < 9; lamp++) {
            maze.pass(1);
            due.is("oil of lamp " + lamp, maze.tunneller(0, 4), 60);
            due.is("lamps behind lamp " + lamp, maze.tunneller(0, 3), 8 - lamp);
            maze.pass(59);
            due.is("the last oil of lamp " + lamp, maze.tunneller(0, 4), 1);
            due.is("it gives light still", maze.count(6), 5);
        }
        maze.pass(1);
        due.is("no oil", maze.tunneller(0, 4), 0);
        due.is("no lamp", maze.tunneller(0, 3), 0);
        due.is("no light", maze.count(6), 0);
    }

    /** Who gets a first lamp in the very tick of being buried lights it in the first tick that begins free. */
    private static void oilOfTheFreed() {
        SnowMaze maze = new SnowMaze();
        maze.come(7, 7, 0, 0);
        maze.pass(11);
        maze.come(8, 7, 1, 4);
        maze.order(1, 6, 1);
        maze.order(1, 4, 1);
        maze.order(1, 3, 1);
        int[][] buriedLampsOil = {{1, 1, 0}, {1, 1, 0}, {1, 1, 0}, {0, 1, 0}, {0, 0, 60}, {0, 0, 59}};
        for (int tick = 0; tick < 6; tick++) {
            maze.pass(1);
            due.is("buried at " + tick, maze.tunneller(0, 7), buriedLampsOil[tick][0]);
            due.is("lamps at " + tick, maze.tunneller(0, 3), buriedLampsOil[tick][1]);
            due.is("oil at " + tick, maze.tunneller(0, 4), buriedLampsOil[tick][2]);
        }
    }

    /** By at most 3 steps over open cells side by side; a cell of snow, if an open cell side by side is lit. */
    private static void lightAtThreeSteps() {
        SnowMaze maze = new SnowMaze();
        int[][] bent = {{5, 5}, {6, 5}, {6, 6}, {7, 6}, {7, 7}};
        for (int[] cell : bent) {
            maze.lay(cell[0], cell[1], 0);
        }
        maze.come(5, 5, 0, 1);
        maze.pass(1);
        for (int i = 0; i < bent.length; i++) {
            due.is("at " + i + " steps", maze.cell(bent[i][0], bent[i][1], 4), i <= 3 ? 1 : 0);
        }
        due.is("snow at three steps", maze.cell(7, 5, 4), 1);
        due.is("snow beside three steps", maze.cell(8, 6, 4), 1);
        due.is("snow at four steps", maze.cell(8, 7, 4), 0);
        due.is("snow at four steps", maze.cell(7, 8, 4), 0);
        maze.lay(5, 6, 0);
        due.is("a way round that is no shorter", maze.cell(7, 7, 4), 0);
        maze.lay(8, 6, 0);
        due.is("open at four steps", maze.cell(8, 6, 4), 0);
    }

    /** Promise 9: a cell that is lit from several sides counts once. */
    private static void litCellsCountOnce() {
        SnowMaze maze = new SnowMaze();
        maze.come(5, 5, 0, 1);
        maze.come(5, 5, 0, 1);
        maze.come(7, 5, 0, 1);
        maze.lay(6, 4, 10);
        maze.pass(1);
        due.is("lit", maze.count(6), 2 + 3 + 3 + 1);
        maze.lay(6, 5, 0);
        due.is("lit, open between", maze.count(6), 3 + 2 + 3 + 2);
        due.isDouble("light", maze.light(), 1.0);
    }

    // ---- deeds

    /** At the edge, and against ice, the step is dropped, whether there is light or not. */
    private static void droppedInTheDark() {
        SnowMaze maze = new SnowMaze();
        maze.lay(1, 0, 10);
        maze.lay(14, 15, 10);
        maze.come(0, 0, 0, 0);
        maze.come(15, 15, 0, 0);
        maze.order(0, 0, 1);
        maze.order(0, 1, 1);
        maze.order(0, 3, 1);
        maze.order(1, 1, 1);
        maze.order(1, 2, 1);
        maze.order(1, 3, 1);
        for (int left = 2; left >= 0; left--) {
            due.is("nothing comes of it", maze.pass(1), 0);
            due.is("dropped in the first corner", maze.tunneller(0, 5), left);
            due.is("dropped in the last corner", maze.tunneller(1, 5), left);
        }
        due.is("still in the first corner", maze.cell(0, 0, 5), 1);
        due.is("still in the last corner", maze.cell(15, 15, 5), 1);
    }

    /** The own cell must be lit; that the snow is lit from its other side is not enough. */
    private static void lightOnTheSnowIsNotEnough() {
        SnowMaze maze = new SnowMaze();
        maze.come(5, 5, 0, 0);
        maze.come(7, 5, 0, 1);
        maze.order(0, 1, 1);
        maze.pass(1);
        due.is("the snow is lit", maze.cell(6, 5, 4), 1);
        due.is("the own cell is not", maze.cell(5, 5, 4), 0);
        due.is("nothing is dug", maze.cell(6, 5, 0), 3);
        due.is("the order stays", maze.tunneller(0, 5), 1);
        maze.order(1, 3, 1);
        due.is("dug from the other side", maze.pass(3), 1);
        due.is("now the own cell is lit", maze.cell(5, 5, 4), 1);
        due.is("the order stays one tick more", maze.tunneller(0, 5), 1);
        maze.pass(1);
        due.is("a step onto the open cell", maze.cell(6, 5, 5), 2);
    }

    /** Shoring, waiting, trading and steps over open cells need no light. */
    private static void deedsInTheDark() {
        SnowMaze maze = new SnowMaze();
        maze.lay(6, 5, 0);
        maze.come(5, 5, 1, 0);
        maze.come(5, 5, 0, 0);
        maze.order(0, 4, 1);
        maze.order(0, 5, 1);
        maze.order(0, 6, 1);
        maze.order(0, 1, 1);
        for (int left = 3; left >= 0; left--) {
            maze.pass(1);
            due.is("done in the dark", maze.tunneller(0, 5), left);
        }
        due.is("a post", maze.cell(5, 5, 2), 1);
        due.is("a step", maze.cell(6, 5, 5), 1);
        due.is("no lamp to trade", maze.count(8), 0);
    }

    /** If nobody is there, the order stays: in each corner, though the row of tunnellers has room left. */
    private static void tradeAlone() {
        for (int corner = 0; corner < 4; corner++) {
            SnowMaze maze = new SnowMaze();
            maze.come(corner % 2 * 15, corner / 2 * 15, 0, 9);
            maze.order(0, 6, 1);
            maze.pass(5);
            due.is("the order stays", maze.tunneller(0, 5), 1);
            due.is("the lamps stay", maze.tunneller(0, 3), 8);
            due.is("none changed hands", maze.count(8), 0);
        }
    }

    /** At least 2 more than the other one: 1 more is too few, 2 are enough, also down to no lamp at all. */
    private static void tradeJustEnough() {
        int[][] cases = {{0, 0, 0}, {1, 0, 0}, {2, 0, 1}, {8, 0, 1}, {8, 7, 0}, {8, 6, 1}};
        for (int[] one : cases) {
            for (int rich = 0; rich < 2; rich++) {
                for (int asks = 0; asks < 2; asks++) {
                    SnowMaze maze = new SnowMaze();
                    maze.come(5, 5, 0, one[rich] + 1);
                    maze.come(6, 5, 0, one[1 - rich] + 1);
                    maze.order(asks, 6, 1);
                    maze.pass(1);
                    String text = one[0] + " and " + one[1] + ", asked by " + asks;
                    due.is("changed hands of " + text, maze.count(8), one[2]);
                    due.is("the richer one of " + text, maze.tunneller(rich, 3), one[0] - one[2]);
                    due.is("the poorer one of " + text, maze.tunneller(1 - rich, 3), one[1] + one[2]);
                    due.is("done in any case, " + text, maze.tunneller(asks, 5), 0);
                }
            }
        }
    }

    // ---- roofs

    /** Each open cell is 1 older, each tick is 1 greater, for as long as it lasts. */
    private static void agesWithoutEnd() {
        SnowMaze maze = new SnowMaze();
        maze.come(5, 5, 1, 0);
        maze.order(0, 4, 1);
        for (int hundreds = 1; hundreds <= 400; hundreds++) {
            maze.pass(100);
        }
        due.is("tick", maze.count(0), 40000);
        due.is("age", maze.cell(5, 5, 1), 40000);
        due.is("age of snow", maze.cell(6, 5, 1), 0);
        due.is("foreseen", maze.foresee(100, 1), 1);
        maze.lay(6, 5, 0);
        maze.pass(1);
        due.is("age of the new one", maze.cell(6, 5, 1), 1);
        due.is("age of the old one", maze.cell(5, 5, 1), 40001);
    }

    /** At least 12 old: what is older, and held no longer, comes down at the next tick; what is laid anew, at 12. */
    private static void oldRoofLosesItsPost() {
        SnowMaze maze = new SnowMaze();
        maze.lay(6, 5, 0);
        maze.come(5, 5, 1, 0);
        maze.order(0, 4, 1);
        maze.order(0, 1, 1);
        maze.pass(20);
        maze.lay(5, 5, 0);
        due.is("open until the tick", maze.count(3), 2);
        maze.pass(1);
        due.is("the old one came down", maze.cell(6, 5, 0), 2);
        due.is("buried", maze.tunneller(0, 7), 1);
        due.is("the new one has not", maze.cell(5, 5, 0), 0);
        maze.pass(10);
        due.is("at the age 11", maze.cell(5, 5, 1), 11);
        maze.pass(1);
        due.is("at the age 12", maze.cell(5, 5, 0), 2);
        due.is("came down", maze.count(5), 2);
    }

    /** Promise 9: cells that came down in all; one that is opened anew counts anew. */
    private static void sameCellComesDownTwice() {
        SnowMaze maze = new SnowMaze();
        for (int times = 1; times <= 20; times++) {
            maze.lay(5, 5, 0);
            maze.pass(11);
            due.is("not yet", maze.count(5), times - 1);
            maze.pass(1);
            due.is("came down in all", maze.count(5), times);
        }
    }

    /** Who is buried does nothing, and has no light, and nobody trades with this one. */
    private static void buriedDoesNothing() {
        for (int order = 0; order <= 6; order++) {
            SnowMaze maze = new SnowMaze();
            maze.come(5, 5, 3, 5);
            maze.pass(12);
            maze.come(5, 6, 1, 1);
            maze.lay(6, 5, 0);
            maze.order(0, order, 1);
            maze.order(1, 4, 1);
            maze.pass(3);
            int[] want = {5, 5, 3, 4, 49, 1, order, 1, 0};
            for (int what = 0; what <= 8; what++) {
                due.is("buried with order " + order + " tells " + what, maze.tunneller(0, what), want[what]);
            }
            due.is("the snow stays", maze.cell(5, 5, 0), 2);
            due.is("no light", maze.cell(6, 5, 4), 0);
        }
    }

    /** Promise 6: takes all orders back, of a buried one too; and none, if there are none. */
    private static void callOfTheBuried() {
        SnowMaze maze = new SnowMaze();
        maze.come(5, 5, 0, 0);
        due.is("none", maze.call(0), 0);
        maze.pass(12);
        maze.order(0, 5, 9);
        maze.order(0, 6, 9);
        maze.order(0, 0, 6);
        due.is("a full row", maze.call(0), 24);
        due.is("none are left", maze.tunneller(0, 5), 0);
        due.is("no first one", maze.tunneller(0, 6), -1);
        due.is("none again", maze.call(0), 0);
        due.is("the row has room for all", maze.order(0, 3, 9), 9);
    }

    // ---- 1 to 100 ticks

    /** Promises 8 and 14: the 100th tick counts, for pass() and for foresee(). */
    private static void hundredTicks() {
        SnowMaze maze = new SnowMaze();
        maze.come(5, 5, 1, 2);
        maze.order(0, 4, 1);
        due.is("oil behind 99", maze.foresee(99, 2), 22);
        due.is("oil behind 100", maze.foresee(100, 2), 21);
        maze.lay(9, 9, 0);
        maze.pass(100);
        due.is("oil", maze.tunneller(0, 4), 21);
        SnowMaze later = new SnowMaze();
        later.come(5, 5, 2, 9);
        later.come(9, 9, 1, 0);
        later.order(0, 4, 1);
        later.order(1, 4, 1);
        later.pass(1);
        later.lay(6, 5, 9);
        for (int x = 7; x <= 15; x++) {
            later.lay(x, 5, 9);
        }
        later.order(0, 1, 9);
        later.order(0, 1, 2);
        due.is("open behind 9", later.foresee(9, 1), 3);
        due.is("open behind 8", later.foresee(8, 1), 2);
        due.is("orders behind 89", later.foresee(89, 3), 2);
        due.is("orders behind 90", later.foresee(90, 3), 1);
        due.is("orders behind 91, the edge", later.foresee(91, 3), 0);
    }

    /** Digs eleven cells of the hardness 9 and one of 1: it stands beside the other one behind just 100 ticks. */
    private static SnowMaze hundredTicksApart() {
        SnowMaze maze = new SnowMaze();
        maze.come(0, 5, 0, 9);
        maze.come(13, 5, 1, 0);
        for (int x = 1; x <= 11; x++) {
            maze.lay(x, 5, 9);
        }
        maze.lay(12, 5, 1);
        maze.order(1, 4, 1);
        maze.order(0, 1, 9);
        maze.order(0, 1, 3);
        return maze;
    }

    /** Promise 13: behind at most so many ticks, 0 if they do now, -1 if they do not. */
    private static void meetAtTheLastTick() {
        SnowMaze maze = hundredTicksApart();
        due.is("behind 100 of 100", maze.meet(0, 1, 100), 100);
        due.is("not behind 99", maze.meet(0, 1, 99), -1);
        due.is("not behind 1", maze.meet(1, 0, 1), -1);
        due.is("opened in 99", maze.pass(99), 11);
        due.is("behind 1 of 1", maze.meet(0, 1, 1), 1);
        due.is("behind 1 of 100", maze.meet(1, 0, 100), 1);
        maze.pass(1);
        due.is("now", maze.meet(0, 1, 1), 0);
        due.is("opened in 100", hundredTicksApart().pass(100), 12);
        due.is("orders in 99", hundredTicksApart().foresee(99, 3), 1);
        due.is("orders in 100", hundredTicksApart().foresee(100, 3), 0);
    }

    /** Promises 7 to 9: what is dug open and what comes down is counted beyond 127. */
    private static void longDigging() {
        SnowMaze maze = new SnowMaze();
        maze.come(0, 0, 0, 9);
        int sum = 0;
        for (int row = 0; row < 9; row++) {
            maze.order(0, row % 2 == 0 ? 1 : 3, 9);
            maze.order(0, row % 2 == 0 ? 1 : 3, 6);
            maze.order(0, 2, 1);
            sum += maze.pass(48);
            due.is("opened in all", sum, 16 * (row + 1));
            due.is("opened by this one", maze.tunneller(0, 8), sum);
            due.is("all orders are done", maze.tunneller(0, 5), 0);
        }
        due.is("open", maze.count(3) + maze.count(5), 145);
        maze.pass(12);
        due.is("came down in all", maze.count(5), 145);
        due.is("buried", maze.tunneller(0, 7), 1);
    }

    /** All eight dig by full rows: how many cells were opened is told for all of them at once. */
    private static void openedIn24Orders() {
        SnowMaze maze = new SnowMaze();
        for (int number = 0; number < 8; number++) {
            maze.come(0, 2 * number, 0, 9);
            maze.order(number, 1, 9);
            maze.order(number, 1, 6);
            maze.order(number, 2, 1);
            maze.order(number, 3, 8);
        }
        due.is("opened by 8 in 24 orders each", maze.pass(72), 8 * 24);
        for (int number = 0; number < 8; number++) {
            due.is("opened by each", maze.tunneller(number, 8), 24);
            due.is("all orders are done", maze.tunneller(number, 5), 0);
        }
    }

    // ---- the checksum

    /** Promise 17: d wraps around as a 64-bit integer; here it is reckoned without wrapping, and cut at the end. */
    private static void digestWrapsAround() {
        BigInteger d = BigInteger.valueOf(509);
        BigInteger factor = BigInteger.valueOf(31);
        SnowMaze maze = new SnowMaze();
        maze.come(15, 15, 1, 0);
        for (int what = 0; what <= 8; what++) {
            d = d.multiply(factor).add(BigInteger.valueOf(maze.count(what)));
        }
        for (int place = 0; place < 256; place++) {
            d = d.multiply(factor).add(BigInteger.valueOf(place == 255 ? 0 : 3));
            d = d.multiply(factor).multiply(factor);
        }
        for (int what = 0; what <= 8; what++) {
            d = d.multiply(factor).add(BigInteger.valueOf(maze.tunneller(0, what)));
        }
        due.is("it is far beyond 64 bits", d.bitLength() > 64 ? 1 : 0, 1);
        due.is("digest", maze.digest(), d.longValue());
    }
}
