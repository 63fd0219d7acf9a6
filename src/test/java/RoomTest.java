import com.sun.management.ThreadMXBean;
import java.lang.management.ManagementFactory;

/** All calls of a run share one room: no call that answers makes an object, however dear it is. */
public final class RoomTest {
    private static final int CALLS = 500;

    public static void main(String[] args) {
        Due due = new Due();
        ThreadMXBean threads = (ThreadMXBean) ManagementFactory.getThreadMXBean();
        long thread = Thread.currentThread().getId();
        long sum = round(Mazes.full());
        SnowMaze maze = Mazes.full();
        long before = threads.getThreadAllocatedBytes(thread);
        sum += round(maze);
        long made = threads.getThreadAllocatedBytes(thread) - before;
        System.out.println(made + " bytes in some " + CALLS + " calls, answers' sum " + sum);
        due.is("less than a byte a call", made < CALLS ? 1 : 0, 1);
        due.end();
    }

    private static long round(SnowMaze maze) {
        long sum = 0;
        for (int i = 0; i < CALLS / 20; i++) {
            sum += maze.lay(i % 5, 15, i % 11) + maze.cell(2, 2, i % 6) + maze.order(0, 5, 1) + maze.tunneller(1, i % 9);
            sum += maze.call(0) + maze.pass(1 + i % 3) + maze.count(i % 9) + maze.way(6, 6, 7, 6) + maze.dig(2, 2, 14, 14);
            sum += maze.caves(0) + maze.caves(1) + maze.caves(2) + maze.meet(1, 2, 100) + maze.without(6, 6);
            sum += maze.foresee(100, i % 4) + maze.digest() + (maze.light() > 0 ? 1 : 0);
        }
        return sum;
    }
}
