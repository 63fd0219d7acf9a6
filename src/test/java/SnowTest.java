/** Promises 1 to 3: a new object, lay, cell. */
public final class SnowTest {
    private static final Due due = new Due();

    public static void main(String[] args) {
        newObject();
        layAnswersWhatWas();
        layClearsPostAndAge();
        layWhereSomebodyWas();
        cellSortAgePost();
        cellHeld();
        cellHeldOnlyOverOpenCells();
        cellLit();
        cellLitSnowAndIce();
        cellCrew();
        cellsAtTheCorners();
        due.end();
    }

    private static void newObject() {
        for (int y = 0; y < 16; y++) {
            SnowMaze row = new SnowMaze();
            for (int x = 0; x < 16; x++) {
                due.is("new: sort", row.cell(x, y, 0), 3);
                for (int what = 1; what <= 5; what++) {
                    due.is("new: cell " + what, row.cell(x, y, what), 0);
                }
            }
        }
        SnowMaze maze = new SnowMaze();
        for (int what = 0; what <= 8; what++) {
            due.is("new: count " + what, maze.count(what), 0);
        }
        for (int what = 0; what <= 2; what++) {
            due.is("new: caves " + what, maze.caves(what), 0);
        }
        due.isDouble("new: light", maze.light(), 0.0);
        SnowMaze other = new SnowMaze();
        other.lay(1, 1, 10);
        due.is("new: objects are apart", maze.cell(1, 1, 0), 3);
    }

    private static void layAnswersWhatWas() {
        SnowMaze maze = new SnowMaze();
        int before = 3;
        for (int sort = 0; sort <= 10; sort++) {
            due.is("lay " + sort, maze.lay(15, 0, sort), before);
            due.is("cell behind lay " + sort, maze.cell(15, 0, 0), sort);
            due.is("open behind lay " + sort, maze.count(3), sort == 0 ? 1 : 0);
            before = sort;
        }
        due.is("lay the same", maze.lay(15, 0, 10), 10);
        maze.lay(0, 15, 7);
        maze.lay(15, 15, 8);
        due.is("column and row are told apart", maze.cell(15, 0, 0), 10);
        due.is("the last row", maze.cell(0, 15, 0), 7);
        due.is("the last cell", maze.cell(15, 15, 0), 8);
        due.is("the first cell", maze.cell(0, 0, 0), 3);
    }

    private static void layClearsPostAndAge() {
        for (int sort = 0; sort <= 10; sort++) {
            SnowMaze maze = new SnowMaze();
            maze.come(4, 4, 2, 0);
            maze.lay(5, 4, 0);
            maze.order(0, 4, 1);
            maze.order(0, 1, 1);
            maze.pass(5);
            due.is("the post stands", maze.cell(4, 4, 2), 1);
            due.is("the age", maze.cell(4, 4, 1), 5);
            due.is("lay over a post", maze.lay(4, 4, sort), 0);
            due.is("the post is gone", maze.cell(4, 4, 2), 0);
            due.is("no post in the snow", maze.count(4), 0);
            due.is("the age is 0", maze.cell(4, 4, 1), 0);
            due.is("nothing is held", maze.cell(5, 4, 3), 0);
            maze.lay(4, 4, 0);
            due.is("opened again without a post", maze.cell(4, 4, 2), 0);
            due.is("opened again with the age 0", maze.cell(4, 4, 1), 0);
        }
    }

    private static void layWhereSomebodyWas() {
        SnowMaze maze = new SnowMaze();
        maze.come(8, 8, 0, 0);
        due.is("lay beside a tunneller", maze.lay(8, 9, 0), 3);
        maze.order(0, 2, 1);
        maze.pass(1);
        due.is("lay where somebody was", maze.lay(8, 8, 4), 0);
        maze.pass(11);
        due.is("buried", maze.tunneller(0, 7), 1);
        due.is("lay beside a buried one", maze.lay(8, 8, 10), 4);
    }

    private static void cellSortAgePost() {
        SnowMaze maze = new SnowMaze();
        maze.lay(0, 0, 10);
        maze.lay(1, 0, 9);
        maze.come(5, 5, 1, 0);
        maze.order(0, 4, 1);
        for (int tick = 1; tick <= 30; tick++) {
            maze.pass(1);
            due.is("age at tick " + tick, maze.cell(5, 5, 1), tick);
            due.is("snow has no age", maze.cell(1, 0, 1), 0);
            due.is("ice has no age", maze.cell(0, 0, 1), 0);
            due.is("post at tick " + tick, maze.cell(5, 5, 2), 1);
        }
        due.is("sort", maze.cell(5, 5, 0), 0);
    }

    /** A post holds itself and the cells up to two steps off. */
    private static void cellHeld() {
        SnowMaze maze = new SnowMaze();
        for (int x = 0; x < 16; x++) {
            maze.lay(x, 8, 0);
        }
        maze.lay(8, 7, 0);
        maze.lay(8, 6, 0);
        maze.lay(8, 5, 0);
        maze.lay(9, 7, 0);
        maze.lay(9, 6, 0);
        maze.come(8, 8, 1, 0);
        due.is("held without a post", maze.cell(8, 8, 3), 0);
        maze.order(0, 4, 1);
        maze.pass(1);
        for (int x = 0; x < 16; x++) {
            due.is("held at " + x, maze.cell(x, 8, 3), x >= 6 && x <= 10 ? 1 : 0);
        }
        due.is("one step north", maze.cell(8, 7, 3), 1);
        due.is("two steps north", maze.cell(8, 6, 3), 1);
        due.is("three steps north", maze.cell(8, 5, 3), 0);
        due.is("two steps round a corner", maze.cell(9, 7, 3), 1);
        due.is("three steps round a corner", maze.cell(9, 6, 3), 0);
        due.is("snow beside a post is not held", maze.cell(8, 9, 3), 0);
    }

    private static void cellHeldOnlyOverOpenCells() {
        SnowMaze maze = new SnowMaze();
        maze.come(8, 8, 1, 0);
        maze.lay(10, 8, 0);
        maze.lay(9, 9, 0);
        maze.order(0, 4, 1);
        maze.pass(1);
        due.is("snow lies between", maze.cell(10, 8, 3), 0);
        due.is("corner to corner", maze.cell(9, 9, 3), 0);
        maze.lay(9, 8, 0);
        due.is("straight, when open", maze.cell(10, 8, 3), 1);
        due.is("round the corner, when open", maze.cell(9, 9, 3), 1);
        maze.lay(9, 8, 10);
        due.is("ice lies between", maze.cell(10, 8, 3), 0);
        maze.lay(15, 3, 0);
        maze.lay(0, 4, 0);
        SnowMaze rows = new SnowMaze();
        rows.come(15, 3, 1, 0);
        rows.lay(0, 4, 0);
        rows.order(0, 4, 1);
        rows.pass(1);
        due.is("the rows' ends do not hang together", rows.cell(0, 4, 3), 0);
    }

    private static void cellLit() {
        SnowMaze maze = new SnowMaze();
        for (int x = 0; x < 16; x++) {
            maze.lay(x, 0, 0);
        }
        maze.come(7, 0, 0, 1);
        for (int x = 0; x < 16; x++) {
            due.is("no oil, no light at " + x, maze.cell(x, 0, 4), 0);
        }
        maze.pass(1);
        for (int x = 0; x < 16; x++) {
            due.is("lit at " + x, maze.cell(x, 0, 4), x >= 4 && x <= 10 ? 1 : 0);
            due.is("lit below " + x, maze.cell(x, 1, 4), x >= 4 && x <= 10 ? 1 : 0);
            due.is("not lit two below " + x, maze.cell(x, 2, 4), 0);
        }
        maze.pass(11);
        due.is("who is buried has oil", maze.tunneller(0, 4), 49);
        due.is("who is buried has no light", maze.cell(7, 0, 4), 0);
    }

    private static void cellLitSnowAndIce() {
        SnowMaze maze = new SnowMaze();
        maze.come(4, 4, 0, 1);
        maze.lay(4, 3, 10);
        maze.lay(5, 4, 9);
        maze.lay(6, 4, 0);
        maze.lay(5, 3, 0);
        maze.pass(1);
        due.is("own cell", maze.cell(4, 4, 4), 1);
        due.is("snow beside", maze.cell(5, 4, 4), 1);
        due.is("ice beside", maze.cell(4, 3, 4), 0);
        due.is("open behind snow", maze.cell(6, 4, 4), 0);
        due.is("open corner to corner", maze.cell(5, 3, 4), 0);
        due.is("snow corner to corner", maze.cell(3, 3, 4), 0);
        due.is("snow in the west", maze.cell(3, 4, 4), 1);
        due.is("snow in the south", maze.cell(4, 5, 4), 1);
        maze.lay(5, 4, 0);
        due.is("now two steps", maze.cell(6, 4, 4), 1);
        due.is("ice stays dark", maze.cell(4, 3, 4), 0);
        SnowMaze edge = new SnowMaze();
        edge.come(15, 4, 0, 1);
        edge.pass(1);
        due.is("light does not run round the edge", edge.cell(0, 5, 4), 0);
        due.is("light does not run round the edge", edge.cell(0, 4, 4), 0);
    }

    private static void cellCrew() {
        SnowMaze maze = new SnowMaze();
        maze.come(1, 1, 0, 0);
        maze.come(1, 1, 0, 0);
        maze.come(2, 1, 0, 0);
        due.is("two there", maze.cell(1, 1, 5), 2);
        due.is("one there", maze.cell(2, 1, 5), 1);
        due.is("none there", maze.cell(3, 1, 5), 0);
        maze.pass(12);
        due.is("two buried there", maze.cell(1, 1, 5), 2);
    }

    private static void cellsAtTheCorners() {
        for (int corner = 0; corner < 4; corner++) {
            int x = corner % 2 * 15;
            int y = corner / 2 * 15;
            SnowMaze maze = new SnowMaze();
            maze.come(x, y, 1, 1);
            maze.order(0, 4, 1);
            maze.pass(1);
            int[] want = {0, 1, 1, 1, 1, 1};
            for (int what = 0; what <= 5; what++) {
                due.is("corner " + corner + " tells " + what, maze.cell(x, y, what), want[what]);
            }
            due.is("posts", maze.count(4), 1);
            due.is("lit: the corner and two beside it", maze.count(6), 3);
            due.is("open cells whose roofs are not held", maze.count(7), 0);
            due.is("caves with a tunneller", maze.caves(2), 1);
            due.is("held for long", maze.foresee(100, 0), 0);
            maze.lay(8, 8, 0);
            due.is("one of both falls", maze.foresee(20, 1), 1);
            maze.pass(20);
            due.is("one of both fell", maze.count(3), 1);
            due.is("it is the other one", maze.cell(x, y, 0), 0);
        }
    }
}
