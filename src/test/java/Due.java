import java.util.function.Supplier;
import java.util.function.ToIntFunction;

/** Counts the calls whose answer is not the one that is due, and prints them. */
final class Due {
    private int asked;
    private int wrong;

    void is(String call, long got, long want) {
        asked++;
        if (got != want) {
            report(call + " answered " + got + ", due is " + want);
        }
    }

    void isDouble(String call, double got, double want) {
        asked++;
        if (Double.compare(got, want) != 0) {
            report(call + " answered " + got + ", due is " + want);
        }
    }

    /** Both mazes are alike, and stay so while ticks go by. */
    void alike(String what, SnowMaze one, SnowMaze other) {
        asked++;
        if (!Mazes.story(one).equals(Mazes.story(other))) {
            report(what + ": a difference");
        }
    }

    /** The call throws an exception of just this class, and the maze goes on like one that was never asked. */
    void refuses(Class<? extends RuntimeException> want, Supplier<SnowMaze> made, String call,
            ToIntFunction<SnowMaze> asking) {
        asked++;
        SnowMaze maze = made.get();
        try {
            int got = asking.applyAsInt(maze);
            report(call + " answered " + got + ", due is " + want.getName());
        } catch (RuntimeException thrown) {
            if (thrown.getClass() != want) {
                report(call + " threw " + thrown.getClass().getName() + ", due is " + want.getName());
            }
        }
        alike("after the refused " + call, maze, made.get());
    }

    void bounds(Supplier<SnowMaze> made, String call, ToIntFunction<SnowMaze> asking) {
        refuses(IndexOutOfBoundsException.class, made, call, asking);
    }

    void argument(Supplier<SnowMaze> made, String call, ToIntFunction<SnowMaze> asking) {
        refuses(IllegalArgumentException.class, made, call, asking);
    }

    void state(Supplier<SnowMaze> made, String call, ToIntFunction<SnowMaze> asking) {
        refuses(IllegalStateException.class, made, call, asking);
    }

    private void report(String text) {
        wrong++;
        if (wrong <= 50) {
            System.out.println(text);
        }
    }

    /** To be called last: ends with exit code 1 if an answer was wrong. */
    void end() {
        System.out.println(asked + " answers, " + wrong + " wrong");
        if (wrong > 0 || asked == 0) {
            System.exit(1);
        }
    }
}
