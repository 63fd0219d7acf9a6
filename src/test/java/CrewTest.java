/** Promises 4 to 7: come, order, call, tunneller. */
public final class CrewTest {
    private static final Due due = new Due();

    public static void main(String[] args) {
        comeNumbers();
        comeOpensSnow();
        comeOnOpenCellKeepsIt();
        comeBesideTheBuried();
        orderAnswers();
        orderRoom();
        callTakesBack();
        tunnellerTells();
        due.end();
    }

    private static void comeNumbers() {
        SnowMaze maze = new SnowMaze();
        for (int number = 0; number < 8; number++) {
            due.is("come", maze.come(number, 15 - number, 20 - number, number), number);
            due.is("tunnellers", maze.count(1), number + 1);
        }
        for (int number = 0; number < 8; number++) {
            due.is("column", maze.tunneller(number, 0), number);
            due.is("row", maze.tunneller(number, 1), 15 - number);
            due.is("posts", maze.tunneller(number, 2), 20 - number);
            due.is("lamps", maze.tunneller(number, 3), number);
            due.is("oil", maze.tunneller(number, 4), 0);
            due.is("orders", maze.tunneller(number, 5), 0);
            due.is("first order", maze.tunneller(number, 6), -1);
            due.is("buried", maze.tunneller(number, 7), 0);
            due.is("opened", maze.tunneller(number, 8), 0);
        }
    }

    private static void comeOpensSnow() {
        for (int sort = 1; sort <= 9; sort++) {
            SnowMaze maze = new SnowMaze();
            maze.lay(3, 4, sort);
            due.is("come into snow", maze.come(3, 4, 1, 9), 0);
            due.is("open then", maze.cell(3, 4, 0), 0);
            due.is("age 0", maze.cell(3, 4, 1), 0);
            due.is("no post set", maze.cell(3, 4, 2), 0);
            due.is("there", maze.cell(3, 4, 5), 1);
            due.is("open cells", maze.count(3), 1);
            due.is("not dug open by this one", maze.tunneller(0, 8), 0);
            due.is("lamps", maze.tunneller(0, 3), 9);
        }
    }

    private static void comeOnOpenCellKeepsIt() {
        SnowMaze maze = new SnowMaze();
        maze.come(3, 4, 1, 0);
        maze.order(0, 4, 1);
        maze.pass(7);
        due.is("come where somebody stands", maze.come(3, 4, 5, 1), 1);
        due.is("its age stays", maze.cell(3, 4, 1), 7);
        due.is("its post stays", maze.cell(3, 4, 2), 1);
        due.is("two there", maze.cell(3, 4, 5), 2);
        maze.lay(4, 4, 0);
        maze.pass(2);
        maze.come(4, 4, 0, 0);
        due.is("the age of an open cell stays", maze.cell(4, 4, 1), 2);
    }

    /** Where somebody is buried, nobody can come; but beside, and there again when this one is dug free. */
    private static void comeBesideTheBuried() {
        SnowMaze maze = new SnowMaze();
        maze.come(5, 5, 0, 0);
        maze.pass(12);
        due.is("buried", maze.tunneller(0, 7), 1);
        due.is("come beside", maze.come(6, 5, 0, 1), 1);
        due.is("the snow of the buried one stays", maze.cell(5, 5, 0), 2);
        due.is("still buried", maze.tunneller(0, 7), 1);
        maze.order(1, 3, 1);
        maze.pass(2);
        due.is("dug free", maze.tunneller(0, 7), 0);
        due.is("come where somebody was buried", maze.come(5, 5, 0, 0), 2);
        due.is("three there", maze.cell(5, 5, 5), 3);
    }

    private static void orderAnswers() {
        SnowMaze maze = new SnowMaze();
        maze.come(5, 5, 0, 0);
        maze.come(9, 9, 0, 0);
        int laid = 0;
        for (int order = 0; order <= 6; order++) {
            laid += order / 2 + 1;
            due.is("order " + order, maze.order(0, order, order / 2 + 1), laid);
            due.is("orders", maze.tunneller(0, 5), laid);
            due.is("the first one stays", maze.tunneller(0, 6), 0);
            due.is("the other one has none", maze.tunneller(1, 5), 0);
        }
        due.is("of the other one", maze.order(1, 6, 9), 9);
        due.is("first of the other one", maze.tunneller(1, 6), 6);
        SnowMaze row = new SnowMaze();
        row.come(5, 5, 0, 0);
        row.order(0, 5, 2);
        row.order(0, 4, 1);
        row.order(0, 5, 1);
        int[] first = {5, 4, 5, -1, -1};
        for (int tick = 0; tick < 5; tick++) {
            row.pass(1);
            due.is("first behind tick " + (tick + 1), row.tunneller(0, 6), first[tick]);
            due.is("left behind tick " + (tick + 1), row.tunneller(0, 5), Math.max(0, 3 - tick));
        }
    }

    private static void orderRoom() {
        SnowMaze maze = new SnowMaze();
        maze.come(5, 5, 0, 0);
        maze.order(0, 5, 9);
        maze.order(0, 5, 9);
        due.is("24 orders", maze.order(0, 6, 6), 24);
        maze.pass(1);
        due.is("one is done, one more fits", maze.order(0, 4, 1), 24);
        maze.pass(11);
        due.is("buried", maze.tunneller(0, 7), 1);
        due.is("orders for a buried one", maze.order(0, 1, 2), 14 + 1);
    }

    private static void callTakesBack() {
        SnowMaze maze = new SnowMaze();
        maze.come(5, 5, 0, 0);
        maze.come(6, 5, 0, 0);
        maze.order(0, 4, 7);
        maze.order(1, 5, 3);
        due.is("call", maze.call(0), 7);
        due.is("none left", maze.tunneller(0, 5), 0);
        due.is("no first one", maze.tunneller(0, 6), -1);
        due.is("the other one's stay", maze.tunneller(1, 5), 3);
        due.is("call again", maze.call(0), 0);
        due.is("order behind call", maze.order(0, 2, 1), 1);
        due.is("first behind call", maze.tunneller(0, 6), 2);
        maze.pass(12);
        due.is("call of a buried one", maze.call(0), 1);
    }

    private static void tunnellerTells() {
        SnowMaze maze = new SnowMaze();
        maze.come(14, 3, 4, 3);
        maze.lay(15, 3, 1);
        maze.order(0, 4, 1);
        maze.order(0, 1, 1);
        maze.order(0, 2, 3);
        maze.pass(2);
        int[] want = {15, 3, 3, 2, 59, 3, 2, 0, 1};
        for (int what = 0; what <= 8; what++) {
            due.is("tunneller " + what, maze.tunneller(0, what), want[what]);
        }
    }
}
