/** What a maze tells of itself, now and some ticks on; in few calls, since an object is used for 512 at most. */
final class Picture {
    private Picture() {
    }

    static String of(SnowMaze maze) {
        return maze.digest() + " " + maze.foresee(7, 1) + " " + maze.foresee(20, 3) + " " + maze.foresee(100, 2);
    }
}
