/** Mazes from which tests start, always the same ones, and what becomes of a maze. */
final class Mazes {
    private Mazes() {
    }

    /**
     * Number 0 is buried at (9, 9) and has 2 orders; number 1 stands at (2, 2) beside snow that is half dug and has 18
     * orders; number 2 stands at (12, 3) with a full row of 24. Ice at (0, 0), open cells at (6, 6) and (7, 6).
     */
    static SnowMaze busy() {
        SnowMaze maze = new SnowMaze();
        maze.come(9, 9, 0, 3);
        maze.pass(12);
        maze.order(0, 5, 2);
        maze.lay(0, 0, 10);
        maze.come(2, 2, 5, 4);
        maze.order(1, 4, 1);
        maze.order(1, 1, 9);
        maze.order(1, 2, 9);
        maze.pass(2);
        maze.lay(6, 6, 0);
        maze.lay(7, 6, 0);
        maze.come(12, 3, 20, 9);
        maze.order(2, 4, 1);
        maze.order(2, 5, 9);
        maze.order(2, 0, 9);
        maze.order(2, 6, 5);
        return maze;
    }

    /** The busy one with all 8 tunnellers; numbers 3 to 7 stand at (10, 12). */
    static SnowMaze full() {
        SnowMaze maze = busy();
        for (int number = 3; number < 8; number++) {
            maze.come(10, 12, number, number);
            maze.order(number, number % 4, number);
        }
        return maze;
    }

    /** What a maze tells of itself, tick by tick; it shows what the digest hides, as orders behind the first one. */
    static String story(SnowMaze maze) {
        StringBuilder told = new StringBuilder();
        for (int tick = 0; tick < 60; tick++) {
            told.append(maze.digest()).append(' ');
            maze.pass(1);
        }
        return told.append(maze.digest()).toString();
    }
}
