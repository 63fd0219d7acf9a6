/** Promises 10 to 12: way, dig, caves. */
public final class WayTest {
    private static final Due due = new Due();

    public static void main(String[] args) {
        waySteps();
        wayRoundAbout();
        wayNone();
        wayThroughWinding();
        digSums();
        digGoesRoundAbout();
        digIce();
        digWholeSnow();
        cavesCounted();
        cavesWithTunnellers();
        due.end();
    }

    private static void waySteps() {
        SnowMaze maze = new SnowMaze();
        for (int y = 0; y < 16; y++) {
            for (int x = 0; x < 16; x++) {
                maze.lay(x, y, 0);
            }
        }
        due.is("to itself", maze.way(3, 3, 3, 3), 0);
        due.is("one step", maze.way(3, 3, 3, 4), 1);
        due.is("from corner to corner", maze.way(0, 0, 15, 15), 30);
        due.is("and back", maze.way(15, 15, 0, 0), 30);
        due.is("the other corners", maze.way(15, 0, 0, 15), 30);
        due.is("column and row", maze.way(2, 9, 7, 1), 13);
    }

    private static void wayRoundAbout() {
        SnowMaze maze = new SnowMaze();
        for (int x = 2; x <= 6; x++) {
            maze.lay(x, 5, 0);
            maze.lay(x, 7, 0);
        }
        maze.lay(2, 6, 0);
        due.is("round about", maze.way(6, 5, 6, 7), 10);
        maze.lay(5, 6, 0);
        due.is("a shorter one", maze.way(6, 5, 6, 7), 4);
        maze.lay(6, 6, 10);
        due.is("ice is no way", maze.way(6, 5, 6, 7), 4);
        maze.lay(6, 6, 0);
        due.is("the shortest one", maze.way(6, 5, 6, 7), 2);
    }

    private static void wayNone() {
        SnowMaze maze = new SnowMaze();
        maze.lay(4, 4, 0);
        maze.lay(6, 4, 0);
        maze.lay(5, 5, 0);
        maze.lay(15, 0, 0);
        maze.lay(0, 1, 0);
        due.is("snow between", maze.way(4, 4, 6, 4), -1);
        due.is("corner to corner", maze.way(4, 4, 5, 5), -1);
        due.is("the rows' ends", maze.way(15, 0, 0, 1), -1);
        due.is("from snow", maze.way(5, 4, 4, 4), -1);
        due.is("to snow", maze.way(4, 4, 5, 4), -1);
        due.is("from snow to itself", maze.way(8, 8, 8, 8), -1);
        maze.lay(8, 8, 10);
        due.is("from ice to itself", maze.way(8, 8, 8, 8), -1);
    }

    /** A way that winds through all rows takes far more steps than the snow has columns and rows. */
    private static void wayThroughWinding() {
        SnowMaze maze = new SnowMaze();
        layWinding(maze);
        due.is("the winding way", maze.way(0, 0, 0, 14), 7 * 15 + 14 + 15);
        due.is("one cave", maze.caves(0), 1);
        due.is("its cells", maze.caves(1), 8 * 16 + 7);
    }

    private static void layWinding(SnowMaze maze) {
        for (int y = 0; y < 15; y++) {
            for (int x = 0; x < 16; x++) {
                if (y % 2 == 0 || x == (y % 4 == 1 ? 15 : 0)) {
                    maze.lay(x, y, 0);
                }
            }
        }
    }

    private static void digSums() {
        SnowMaze maze = new SnowMaze();
        due.is("one cell of new snow", maze.dig(4, 4, 4, 4), 3);
        due.is("both ends count", maze.dig(4, 4, 5, 4), 6);
        due.is("five cells", maze.dig(4, 4, 8, 4), 15);
        for (int sort = 0; sort <= 9; sort++) {
            maze.lay(4, 4, sort);
            due.is("the first end of " + sort, maze.dig(4, 4, 5, 4), sort + 3);
            due.is("the last end of " + sort, maze.dig(5, 4, 4, 4), sort + 3);
            due.is("alone " + sort, maze.dig(4, 4, 4, 4), sort);
        }
        maze.lay(4, 4, 0);
        maze.lay(5, 4, 0);
        due.is("open cells cost nothing", maze.dig(4, 4, 6, 4), 3);
        due.is("nothing to dig", maze.dig(4, 4, 5, 4), 0);
    }

    private static void digGoesRoundAbout() {
        SnowMaze maze = new SnowMaze();
        maze.lay(5, 4, 9);
        maze.lay(4, 4, 0);
        maze.lay(6, 4, 0);
        due.is("straight and round about are even", maze.dig(4, 4, 6, 4), 9);
        maze.lay(5, 3, 2);
        due.is("round about is less", maze.dig(4, 4, 6, 4), 8);
        maze.lay(5, 4, 7);
        due.is("straight is less", maze.dig(4, 4, 6, 4), 7);
        SnowMaze winding = new SnowMaze();
        for (int y = 0; y < 16; y++) {
            for (int x = 0; x < 16; x++) {
                winding.lay(x, y, 9);
            }
        }
        layWinding(winding);
        due.is("a long way that costs nothing", winding.dig(0, 0, 0, 14), 0);
        due.is("and one cell behind it", winding.dig(0, 0, 7, 15), 9);
    }

    private static void digIce() {
        SnowMaze maze = new SnowMaze();
        maze.lay(8, 8, 10);
        due.is("from ice", maze.dig(8, 8, 9, 8), -1);
        due.is("to ice", maze.dig(9, 8, 8, 8), -1);
        due.is("from ice to itself", maze.dig(8, 8, 8, 8), -1);
        due.is("round the ice", maze.dig(7, 8, 9, 8), 15);
        for (int y = 0; y < 16; y++) {
            maze.lay(8, y, 10);
        }
        due.is("a wall of ice", maze.dig(7, 8, 9, 8), -1);
        maze.lay(8, 15, 1);
        due.is("a gap at the edge", maze.dig(7, 15, 9, 15), 7);
        maze.lay(8, 15, 10);
        due.is("the rows' ends do not hang together", maze.dig(0, 5, 15, 4), -1);
    }

    private static void digWholeSnow() {
        SnowMaze maze = new SnowMaze();
        for (int y = 0; y < 16; y++) {
            for (int x = 0; x < 16; x++) {
                maze.lay(x, y, 9);
            }
        }
        due.is("from corner to corner", maze.dig(0, 0, 15, 15), 31 * 9);
        for (int y = 0; y < 15; y++) {
            for (int x = 0; x < 16; x++) {
                if (y % 2 == 1 && x != (y % 4 == 1 ? 15 : 0)) {
                    maze.lay(x, y, 10);
                }
            }
        }
        due.is("a winding way of hard snow", maze.dig(0, 0, 0, 14), (8 * 16 + 7) * 9);
    }

    private static void cavesCounted() {
        SnowMaze maze = new SnowMaze();
        maze.lay(0, 0, 0);
        due.is("one cave", maze.caves(0), 1);
        due.is("one cell", maze.caves(1), 1);
        maze.lay(1, 1, 0);
        due.is("corner to corner", maze.caves(0), 2);
        due.is("the largest one", maze.caves(1), 1);
        maze.lay(0, 1, 0);
        due.is("joined", maze.caves(0), 1);
        due.is("the largest one", maze.caves(1), 3);
        maze.lay(15, 5, 0);
        maze.lay(0, 6, 0);
        due.is("the rows' ends do not hang together", maze.caves(0), 3);
        for (int x = 4; x < 9; x++) {
            maze.lay(x, 15, 0);
        }
        maze.lay(12, 12, 0);
        due.is("five caves", maze.caves(0), 5);
        due.is("the largest one is not the first or the last", maze.caves(1), 5);
        SnowMaze checks = new SnowMaze();
        for (int y = 0; y < 16; y++) {
            for (int x = 0; x < 16; x++) {
                checks.lay(x, y, (x + y) % 2 == 0 ? 0 : 10);
            }
        }
        due.is("all apart", checks.caves(0), 128);
        due.is("the largest one", checks.caves(1), 1);
        SnowMaze whole = new SnowMaze();
        for (int y = 0; y < 16; y++) {
            for (int x = 0; x < 16; x++) {
                whole.lay(x, y, 0);
            }
        }
        due.is("all together", whole.caves(0), 1);
        due.is("the largest one", whole.caves(1), 256);
    }

    private static void cavesWithTunnellers() {
        SnowMaze maze = new SnowMaze();
        due.is("nobody", maze.caves(2), 0);
        maze.lay(0, 0, 0);
        maze.come(4, 4, 1, 0);
        maze.come(4, 4, 0, 0);
        due.is("two in one cave", maze.caves(2), 1);
        maze.lay(5, 4, 0);
        maze.come(6, 4, 0, 0);
        due.is("three in one cave", maze.caves(2), 1);
        maze.come(12, 12, 0, 0);
        due.is("two caves", maze.caves(2), 2);
        due.is("and one where nobody is", maze.caves(0), 3);
        maze.order(0, 4, 1);
        maze.pass(12);
        due.is("who is buried does not count", maze.caves(2), 1);
        due.is("caves", maze.caves(0), 1);
    }
}
