/** All that a maze tells of itself, now and some ticks on, as a text. */
final class Picture {
    private Picture() {
    }

    static String of(SnowMaze maze) {
        StringBuilder text = new StringBuilder();
        for (int y = 0; y < 16; y++) {
            for (int x = 0; x < 16; x++) {
                for (int what = 0; what <= 5; what++) {
                    text.append(maze.cell(x, y, what)).append(' ');
                }
            }
        }
        for (int what = 0; what <= 8; what++) {
            text.append(maze.count(what)).append(' ');
        }
        int crew = maze.count(1);
        for (int number = 0; number < crew; number++) {
            for (int what = 0; what <= 8; what++) {
                text.append(maze.tunneller(number, what)).append(' ');
            }
        }
        for (int ticks = 1; ticks <= 100; ticks += 3) {
            for (int what = 0; what <= 3; what++) {
                text.append(maze.foresee(ticks, what)).append(' ');
            }
        }
        for (int a = 0; a < crew; a++) {
            for (int b = a + 1; b < crew; b++) {
                text.append(maze.meet(a, b, 100)).append(' ');
            }
        }
        return text.append(maze.digest()).toString();
    }
}
