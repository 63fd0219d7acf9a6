/** The lines under "Use" in README.md, with the answers that their comments tell. */
public final class UseTest {
    public static void main(String[] args) {
        Due due = new Due();
        SnowMaze maze = new SnowMaze();
        int first = maze.come(2, 2, 3, 2);
        due.is("number", first, 0);
        maze.order(first, 1, 2);
        maze.order(first, 4, 1);
        int orders = maze.tunneller(first, 5);
        due.is("orders", orders, 3);
        int meant = maze.foresee(10, 1);
        due.is("open cells behind ten ticks", meant, 3);
        int opened = maze.pass(10);
        due.is("cells dug open", opened, 2);
        int steps = maze.way(2, 2, 4, 2);
        due.is("steps", steps, 2);
        double lit = maze.light();
        due.isDouble("light", lit, 1.0);
        due.is("the post at the end", maze.cell(4, 2, 2), 1);
        due.end();
    }
}
