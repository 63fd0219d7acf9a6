/** Promises 8 and 9: pass and count, and what the terms say of a tick. */
public final class TickTest {
    private static final Due due = new Due();

    public static void main(String[] args) {
        passIsTickByTick();
        oilBurns();
        oilIsBurntBeforeAllDeeds();
        oilOfTheBuriedStays();
        stepsOverOpenCells();
        stepsAgainstEdgeAndIce();
        digging();
        diggingNeedsLight();
        diggingByTheLightOfOthers();
        diggersHelpEachOther();
        passAnswersOpenedCells();
        shoring();
        waiting();
        tradeHandsOver();
        tradePartner();
        tradeWaits();
        roofsComeDown();
        roofsFallAtOnce();
        roofsHeldLater();
        buriedAreFreed();
        freedInTheSameTick();
        counts();
        due.end();
    }

    private static void passIsTickByTick() {
        SnowMaze once = Mazes.full();
        SnowMaze often = Mazes.full();
        int opened = once.pass(60);
        int sum = 0;
        for (int i = 0; i < 60; i++) {
            sum += often.pass(1);
        }
        due.is("opened", sum, opened);
        due.alike("at once or tick by tick", often, once);
    }

    private static void oilBurns() {
        SnowMaze maze = new SnowMaze();
        maze.come(3, 3, 1, 2);
        maze.order(0, 4, 1);
        maze.pass(1);
        due.is("oil", maze.tunneller(0, 4), 60);
        due.is("lamps", maze.tunneller(0, 3), 1);
        maze.pass(59);
        due.is("oil", maze.tunneller(0, 4), 1);
        due.is("lamps", maze.tunneller(0, 3), 1);
        maze.pass(1);
        due.is("the next lamp at once", maze.tunneller(0, 4), 60);
        due.is("lamps", maze.tunneller(0, 3), 0);
        due.is("lit", maze.cell(3, 3, 4), 1);
        maze.pass(59);
        due.is("oil", maze.tunneller(0, 4), 1);
        maze.pass(1);
        due.is("no lamp left", maze.tunneller(0, 4), 0);
        due.is("dark", maze.cell(3, 3, 4), 0);
        maze.pass(5);
        due.is("oil stays 0", maze.tunneller(0, 4), 0);
        due.is("lamps stay 0", maze.tunneller(0, 3), 0);
    }

    /** The last oil of the second one is gone before the first one digs. */
    private static void oilIsBurntBeforeAllDeeds() {
        SnowMaze maze = new SnowMaze();
        maze.come(3, 3, 1, 0);
        maze.come(3, 4, 1, 1);
        maze.lay(4, 3, 9);
        maze.order(0, 4, 1);
        maze.pass(59);
        maze.order(0, 1, 1);
        maze.pass(1);
        due.is("the last tick of light", maze.cell(4, 3, 0), 8);
        maze.pass(1);
        due.is("dark ahead of the deeds", maze.cell(4, 3, 0), 8);
        maze.come(3, 4, 0, 1);
        maze.pass(1);
        due.is("a lamp lit in this tick gives light", maze.cell(4, 3, 0), 7);
    }

    private static void oilOfTheBuriedStays() {
        SnowMaze maze = new SnowMaze();
        maze.come(3, 3, 0, 2);
        maze.come(9, 9, 0, 0);
        maze.pass(12);
        due.is("oil", maze.tunneller(0, 4), 49);
        due.is("lamps", maze.tunneller(0, 3), 1);
        maze.order(0, 4, 1);
        maze.pass(100);
        due.is("oil of a buried one", maze.tunneller(0, 4), 49);
        due.is("lamps of a buried one", maze.tunneller(0, 3), 1);
        due.is("a buried one does nothing", maze.tunneller(0, 5), 1);
        due.is("a buried one lights no lamp", maze.tunneller(1, 4), 0);
    }

    private static void stepsOverOpenCells() {
        int[] dx = {0, 1, 0, -1};
        int[] dy = {-1, 0, 1, 0};
        for (int direction = 0; direction < 4; direction++) {
            SnowMaze maze = new SnowMaze();
            maze.come(8, 8, 0, 0);
            for (int i = 1; i <= 2; i++) {
                maze.lay(8 + i * dx[direction], 8 + i * dy[direction], 0);
            }
            maze.order(0, direction, 2);
            due.is("nothing is opened", maze.pass(1), 0);
            due.is("column", maze.tunneller(0, 0), 8 + dx[direction]);
            due.is("row", maze.tunneller(0, 1), 8 + dy[direction]);
            due.is("orders", maze.tunneller(0, 5), 1);
            maze.pass(1);
            due.is("column", maze.tunneller(0, 0), 8 + 2 * dx[direction]);
            due.is("row", maze.tunneller(0, 1), 8 + 2 * dy[direction]);
            due.is("opened", maze.tunneller(0, 8), 0);
            due.is("the age goes on", maze.cell(8 + dx[direction], 8 + dy[direction], 1), 2);
        }
    }

    private static void stepsAgainstEdgeAndIce() {
        int[][] corners = {{5, 0}, {15, 5}, {5, 15}, {0, 5}};
        int[] dx = {0, 1, 0, -1};
        int[] dy = {-1, 0, 1, 0};
        for (int direction = 0; direction < 4; direction++) {
            SnowMaze maze = new SnowMaze();
            int x = corners[direction][0];
            int y = corners[direction][1];
            maze.come(x, y, 0, 1);
            maze.come(8, 8, 0, 1);
            maze.lay(8 + dx[direction], 8 + dy[direction], 10);
            for (int number = 0; number < 2; number++) {
                maze.order(number, direction, 1);
                maze.order(number, 5, 1);
            }
            due.is("nothing is opened", maze.pass(1), 0);
            for (int number = 0; number < 2; number++) {
                due.is("the step is dropped", maze.tunneller(number, 5), 1);
                due.is("wait is next", maze.tunneller(number, 6), 5);
            }
            due.is("still at the edge", maze.cell(x, y, 5), 1);
            due.is("still beside the ice", maze.cell(8, 8, 5), 1);
            due.is("the ice stays", maze.cell(8 + dx[direction], 8 + dy[direction], 0), 10);
            due.is("open cells", maze.count(3), 2);
        }
    }

    private static void digging() {
        for (int hardness = 1; hardness <= 9; hardness++) {
            SnowMaze maze = new SnowMaze();
            maze.come(8, 8, 0, 1);
            maze.lay(9, 8, hardness);
            maze.order(0, 1, 1);
            maze.order(0, 5, 1);
            for (int left = hardness - 1; left > 0; left--) {
                due.is("nothing is opened", maze.pass(1), 0);
                due.is("hardness", maze.cell(9, 8, 0), left);
                due.is("age of snow", maze.cell(9, 8, 1), 0);
                due.is("the order stays", maze.tunneller(0, 5), 2);
                due.is("column", maze.tunneller(0, 0), 8);
                due.is("opened", maze.tunneller(0, 8), 0);
            }
            due.is("opened in this tick", maze.pass(1), 1);
            due.is("open", maze.cell(9, 8, 0), 0);
            due.is("age behind its first tick", maze.cell(9, 8, 1), 1);
            due.is("column", maze.tunneller(0, 0), 9);
            due.is("the order is done", maze.tunneller(0, 5), 1);
            due.is("opened", maze.tunneller(0, 8), 1);
        }
    }

    private static void diggingNeedsLight() {
        SnowMaze maze = new SnowMaze();
        maze.come(8, 8, 1, 0);
        maze.order(0, 4, 1);
        maze.order(0, 1, 1);
        due.is("nothing is opened", maze.pass(20), 0);
        due.is("hardness", maze.cell(9, 8, 0), 3);
        due.is("the order stays", maze.tunneller(0, 5), 1);
        due.is("column", maze.tunneller(0, 0), 8);
        maze.lay(9, 8, 0);
        maze.pass(1);
        due.is("a step needs no light", maze.tunneller(0, 0), 9);
    }

    private static void diggingByTheLightOfOthers() {
        SnowMaze maze = new SnowMaze();
        for (int x = 4; x <= 8; x++) {
            maze.lay(x, 8, 0);
        }
        maze.come(8, 8, 0, 0);
        maze.come(5, 8, 0, 1);
        maze.order(0, 1, 1);
        maze.pass(1);
        due.is("three steps off there is light", maze.cell(9, 8, 0), 2);
        maze.order(1, 3, 1);
        maze.pass(1);
        due.is("the first one digs before the second one goes", maze.cell(9, 8, 0), 1);
        maze.pass(1);
        due.is("four steps off there is none", maze.cell(9, 8, 0), 1);
        SnowMaze swapped = new SnowMaze();
        for (int x = 4; x <= 8; x++) {
            swapped.lay(x, 8, 0);
        }
        swapped.come(4, 8, 0, 1);
        swapped.come(8, 8, 0, 0);
        swapped.order(0, 1, 1);
        swapped.order(1, 1, 1);
        swapped.pass(1);
        due.is("who came near in this tick gives light already", swapped.cell(9, 8, 0), 2);
    }

    private static void diggersHelpEachOther() {
        SnowMaze maze = new SnowMaze();
        maze.come(4, 4, 0, 1);
        maze.come(6, 4, 0, 1);
        maze.order(0, 1, 1);
        maze.order(1, 3, 1);
        due.is("opened", maze.pass(1), 0);
        due.is("two dig at one cell", maze.cell(5, 4, 0), 1);
        due.is("opened", maze.pass(1), 1);
        due.is("the first one dug it open", maze.tunneller(0, 8), 1);
        due.is("the second one only stepped", maze.tunneller(1, 8), 0);
        due.is("both stand there", maze.cell(5, 4, 5), 2);
    }

    private static void passAnswersOpenedCells() {
        SnowMaze maze = new SnowMaze();
        maze.come(4, 4, 0, 1);
        maze.come(10, 10, 0, 1);
        maze.order(0, 1, 3);
        maze.order(1, 0, 2);
        due.is("opened by both", maze.pass(9), 5);
        due.is("opened by the first one", maze.tunneller(0, 8), 3);
        due.is("opened by the second one", maze.tunneller(1, 8), 2);
        maze.order(1, 0, 1);
        due.is("only those of this call", maze.pass(3), 1);
        due.is("opened by the second one", maze.tunneller(1, 8), 3);
        due.is("nothing more", maze.pass(1), 0);
    }

    private static void shoring() {
        SnowMaze maze = new SnowMaze();
        maze.come(4, 4, 2, 0);
        maze.come(9, 9, 0, 0);
        maze.lay(5, 4, 0);
        maze.order(0, 4, 2);
        maze.order(0, 1, 1);
        maze.order(0, 4, 2);
        maze.order(1, 4, 1);
        maze.pass(1);
        due.is("post", maze.cell(4, 4, 2), 1);
        due.is("posts left", maze.tunneller(0, 2), 1);
        due.is("no post left", maze.cell(9, 9, 2), 0);
        due.is("done in any case", maze.tunneller(1, 5), 0);
        due.is("posts are not below 0", maze.tunneller(1, 2), 0);
        maze.pass(1);
        due.is("one post a cell", maze.tunneller(0, 2), 1);
        due.is("done in any case", maze.tunneller(0, 5), 3);
        maze.pass(3);
        due.is("second post", maze.cell(5, 4, 2), 1);
        due.is("posts left", maze.tunneller(0, 2), 0);
        due.is("all done", maze.tunneller(0, 5), 0);
        due.is("posts in the snow", maze.count(4), 2);
    }

    private static void waiting() {
        SnowMaze maze = new SnowMaze();
        maze.come(4, 4, 2, 1);
        maze.order(0, 5, 3);
        maze.pass(1);
        int[] want = {4, 4, 2, 0, 60, 2, 5, 0, 0};
        for (int what = 0; what <= 8; what++) {
            due.is("waiting " + what, maze.tunneller(0, what), want[what]);
        }
    }

    /** Both lamps are lit first, so each has one less in hand than it came with. */
    private static void tradeHandsOver() {
        for (int mine = 1; mine <= 9; mine++) {
            for (int other = 1; other <= 9; other++) {
                SnowMaze maze = new SnowMaze();
                maze.come(4, 4, 0, mine);
                maze.come(4, 5, 0, other);
                maze.order(0, 6, 1);
                maze.pass(1);
                int hand = mine - other >= 2 ? -1 : other - mine >= 2 ? 1 : 0;
                due.is("mine of " + mine + " and " + other, maze.tunneller(0, 3), mine - 1 + hand);
                due.is("other of " + mine + " and " + other, maze.tunneller(1, 3), other - 1 - hand);
                due.is("changed hands", maze.count(8), hand * hand);
                due.is("done in any case", maze.tunneller(0, 5), 0);
            }
        }
        SnowMaze often = new SnowMaze();
        often.come(4, 4, 0, 9);
        often.come(4, 4, 0, 1);
        often.order(0, 6, 5);
        often.pass(5);
        due.is("until they are even", often.tunneller(0, 3), 4);
        due.is("until they are even", often.tunneller(1, 3), 4);
        due.is("changed hands", often.count(8), 4);
    }

    private static void tradePartner() {
        int[] dx = {0, 0, 1, 0, -1};
        int[] dy = {0, -1, 0, 1, 0};
        for (int near = 0; near < 5; near++) {
            SnowMaze maze = new SnowMaze();
            maze.come(4, 4, 0, 1);
            maze.come(7, 4, 0, 9);
            maze.come(4 + dx[near], 4 + dy[near], 0, 9);
            maze.come(4, 4, 0, 9);
            maze.order(3, 5, 1);
            maze.order(0, 6, 1);
            maze.pass(1);
            due.is("with the smallest number that is near", maze.tunneller(2, 3), 7);
            due.is("not with one who is far", maze.tunneller(1, 3), 8);
            due.is("not with a greater number", maze.tunneller(3, 3), 8);
            due.is("taken", maze.tunneller(0, 3), 1);
        }
        SnowMaze up = new SnowMaze();
        up.come(4, 4, 0, 5);
        up.come(4, 4, 0, 9);
        up.come(4, 4, 0, 2);
        up.order(2, 6, 1);
        up.pass(1);
        due.is("the smallest number, not the most lamps", up.tunneller(0, 3), 3);
        due.is("the smallest number, not the most lamps", up.tunneller(1, 3), 8);
        SnowMaze corner = new SnowMaze();
        corner.come(4, 4, 0, 1);
        corner.come(5, 5, 0, 9);
        corner.come(3, 3, 0, 9);
        corner.come(6, 4, 0, 9);
        corner.order(0, 6, 1);
        corner.pass(1);
        due.is("corner to corner is not side by side", corner.tunneller(0, 5), 1);
        SnowMaze edge = new SnowMaze();
        edge.come(15, 4, 0, 1);
        edge.come(0, 5, 0, 9);
        edge.come(0, 4, 0, 9);
        edge.order(0, 6, 1);
        edge.pass(1);
        due.is("the rows' ends are not side by side", edge.tunneller(0, 5), 1);
    }

    private static void tradeWaits() {
        SnowMaze maze = new SnowMaze();
        maze.come(4, 4, 1, 5);
        maze.come(6, 4, 0, 1);
        maze.lay(5, 4, 0);
        maze.order(0, 4, 1);
        maze.order(0, 6, 1);
        maze.pass(3);
        due.is("nobody is there", maze.tunneller(0, 5), 1);
        maze.order(1, 3, 1);
        maze.pass(1);
        due.is("the first one acts before the second one comes", maze.tunneller(0, 5), 1);
        maze.pass(1);
        due.is("now traded", maze.tunneller(0, 5), 0);
        due.is("changed hands", maze.count(8), 1);
        SnowMaze buried = new SnowMaze();
        buried.come(4, 4, 0, 9);
        buried.pass(12);
        buried.come(5, 4, 0, 1);
        buried.order(1, 6, 1);
        buried.pass(5);
        due.is("nobody trades with a buried one", buried.tunneller(1, 5), 1);
        due.is("lamps of the buried one", buried.tunneller(0, 3), 8);
    }

    private static void roofsComeDown() {
        SnowMaze maze = new SnowMaze();
        maze.come(4, 4, 0, 0);
        maze.lay(9, 9, 0);
        maze.pass(11);
        due.is("age 11", maze.cell(4, 4, 1), 11);
        due.is("still open", maze.cell(4, 4, 0), 0);
        due.is("not buried", maze.tunneller(0, 7), 0);
        due.is("none came down", maze.count(5), 0);
        due.is("open cells whose roofs are not held", maze.count(7), 2);
        maze.pass(1);
        due.is("snow of the hardness 2", maze.cell(4, 4, 0), 2);
        due.is("snow of the hardness 2", maze.cell(9, 9, 0), 2);
        due.is("no age", maze.cell(4, 4, 1), 0);
        due.is("buried", maze.tunneller(0, 7), 1);
        due.is("came down", maze.count(5), 2);
        due.is("open cells", maze.count(3), 0);
        due.is("buried in all", maze.count(2), 1);
        maze.pass(50);
        due.is("no cell comes down twice", maze.count(5), 2);
    }

    /** All fall at once: a cell that falls does not cut another one off from its post in the same tick. */
    private static void roofsFallAtOnce() {
        SnowMaze maze = new SnowMaze();
        for (int x = 3; x <= 8; x++) {
            maze.lay(x, 4, 0);
        }
        maze.come(5, 4, 1, 0);
        maze.order(0, 4, 1);
        maze.pass(12);
        int[] want = {0, 0, 0, 0, 0, 2};
        for (int x = 3; x <= 8; x++) {
            due.is("sort at " + x, maze.cell(x, 4, 0), want[x - 3]);
        }
        maze.lay(4, 4, 1);
        maze.pass(1);
        due.is("cut off, so it falls", maze.cell(3, 4, 0), 2);
        due.is("came down", maze.count(5), 2);
    }

    private static void roofsHeldLater() {
        SnowMaze maze = new SnowMaze();
        maze.come(4, 4, 1, 0);
        maze.lay(5, 4, 0);
        maze.lay(6, 4, 0);
        maze.lay(7, 4, 0);
        maze.pass(11);
        maze.order(0, 4, 1);
        maze.pass(1);
        due.is("the post of this tick holds", maze.cell(4, 4, 0), 0);
        due.is("two steps off", maze.cell(6, 4, 0), 0);
        due.is("three steps off", maze.cell(7, 4, 0), 2);
        maze.pass(30);
        due.is("held for good", maze.cell(6, 4, 0), 0);
        due.is("age of a held cell", maze.cell(6, 4, 1), 42);
        SnowMaze posted = new SnowMaze();
        posted.come(4, 4, 1, 0);
        posted.order(0, 4, 1);
        posted.pass(100);
        due.is("a post holds its own cell", posted.cell(4, 4, 0), 0);
    }

    private static void buriedAreFreed() {
        SnowMaze maze = new SnowMaze();
        maze.come(4, 4, 0, 3);
        maze.come(4, 4, 0, 0);
        maze.pass(1);
        maze.pass(11);
        due.is("both are buried", maze.count(2), 2);
        maze.order(0, 5, 2);
        maze.order(1, 5, 1);
        maze.come(5, 4, 2, 1);
        maze.order(2, 4, 1);
        maze.order(2, 3, 1);
        due.is("opened", maze.pass(2), 0);
        due.is("still buried", maze.count(2), 2);
        due.is("half dug", maze.cell(4, 4, 0), 1);
        due.is("opened", maze.pass(1), 1);
        due.is("all are free", maze.count(2), 0);
        due.is("three stand there", maze.cell(4, 4, 5), 3);
        due.is("the smaller number goes on with the next tick", maze.tunneller(0, 5), 2);
        maze.pass(1);
        due.is("goes on with its orders", maze.tunneller(0, 5), 1);
        due.is("goes on with its orders", maze.tunneller(1, 5), 0);
    }

    /** Who is freed by a smaller number is free when its turn comes. */
    private static void freedInTheSameTick() {
        SnowMaze freed = new SnowMaze();
        freed.come(9, 9, 2, 1);
        freed.come(12, 9, 0, 2);
        freed.order(0, 4, 1);
        freed.pass(12);
        due.is("buried", freed.tunneller(1, 7), 1);
        int oil = freed.tunneller(1, 4);
        freed.lay(10, 9, 0);
        freed.lay(11, 9, 0);
        freed.order(0, 1, 3);
        freed.order(1, 5, 2);
        freed.pass(3);
        due.is("not free yet", freed.tunneller(1, 7), 1);
        due.is("no order done yet", freed.tunneller(1, 5), 2);
        freed.pass(1);
        due.is("free", freed.tunneller(1, 7), 0);
        due.is("acts when its turn comes", freed.tunneller(1, 5), 1);
        due.is("the oil of this tick was not burnt", freed.tunneller(1, 4), oil);
        freed.pass(1);
        due.is("the oil burns again", freed.tunneller(1, 4), oil - 1);
    }

    private static void counts() {
        SnowMaze maze = new SnowMaze();
        maze.come(4, 4, 1, 5);
        maze.come(5, 4, 0, 1);
        maze.come(12, 12, 0, 0);
        maze.lay(6, 4, 0);
        maze.lay(7, 4, 0);
        maze.lay(8, 4, 0);
        maze.lay(4, 3, 10);
        maze.order(0, 4, 1);
        maze.order(0, 6, 1);
        maze.pass(2);
        int[] early = {2, 3, 0, 6, 1, 0, 5 + 4 + 5 + 2, 3, 1};
        for (int what = 0; what <= 8; what++) {
            due.is("count " + what + " at the tick 2", maze.count(what), early[what]);
        }
        maze.pass(10);
        int[] late = {12, 3, 1, 3, 1, 3, 3 + 2 + 3 + 2, 0, 1};
        for (int what = 0; what <= 8; what++) {
            due.is("count " + what + " at the tick 12", maze.count(what), late[what]);
        }
    }
}
