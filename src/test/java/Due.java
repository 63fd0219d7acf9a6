import java.util.function.IntSupplier;

/** Counts the calls whose answer is not the one that is due, and prints them. */
final class Due {
    private int asked;
    private int wrong;

    void is(String call, long got, long want) {
        asked++;
        if (got != want) {
            report(call + " answered " + got + ", due is " + want);
        }
    }

    void isDouble(String call, double got, double want) {
        asked++;
        if (Double.compare(got, want) != 0) {
            report(call + " answered " + got + ", due is " + want);
        }
    }

    /** The call throws an exception of just this class, and the maze is as it was. */
    void fails(SnowMaze maze, String call, Class<? extends RuntimeException> want, IntSupplier made) {
        asked++;
        String before = Picture.of(maze);
        try {
            int got = made.getAsInt();
            report(call + " answered " + got + ", due is " + want.getName());
        } catch (RuntimeException thrown) {
            if (thrown.getClass() != want) {
                report(call + " threw " + thrown.getClass().getName() + ", due is " + want.getName());
            }
        }
        if (!Picture.of(maze).equals(before)) {
            report(call + " changed something");
        }
    }

    void bounds(SnowMaze maze, String call, IntSupplier made) {
        fails(maze, call, IndexOutOfBoundsException.class, made);
    }

    void argument(SnowMaze maze, String call, IntSupplier made) {
        fails(maze, call, IllegalArgumentException.class, made);
    }

    void state(SnowMaze maze, String call, IntSupplier made) {
        fails(maze, call, IllegalStateException.class, made);
    }

    private void report(String text) {
        wrong++;
        if (wrong <= 50) {
            System.out.println(text);
        }
    }

    /** To be called last: ends with exit code 1 if an answer was wrong. */
    void end() {
        System.out.println(asked + " answers, " + wrong + " wrong");
        if (wrong > 0 || asked == 0) {
            System.exit(1);
        }
    }
}
