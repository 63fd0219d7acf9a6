import java.util.Random;
import java.util.function.LongSupplier;

/** All promises: long runs of calls, always the same ones, on a maze and on the model beside it. */
public final class ModelTest {
    private static final int RUNS = 600;
    private static final int CALLS = 512;
    private static final String[] NAMES = {"lay", "cell", "come", "order", "call", "tunneller", "pass", "count", "way",
        "dig", "caves", "meet", "foresee", "without", "light", "digest"};
    private static final int[] ARGUMENTS = {3, 3, 4, 3, 1, 2, 1, 1, 4, 4, 1, 3, 2, 2, 0, 0};
    /** How often a call comes; those that change something come more often. */
    private static final int[] SHARES = {14, 10, 4, 22, 2, 6, 22, 5, 4, 4, 4, 5, 6, 5, 3, 8};

    private final Random random;
    private final SnowMaze maze = new SnowMaze();
    private final Model model = new Model();
    /** The part of the snow where most of a run takes place, so that much happens there. */
    private final int left;
    private final int top;
    private final int width;
    private final int longestPass;

    private ModelTest(int run) {
        random = new Random(run);
        width = new int[] {2, 4, 6, 16}[run % 4];
        left = place(run % 5);
        top = place(run % 7);
        longestPass = run % 3 == 0 ? 3 : 12;
    }

    /** Some runs lie at the edges, most anywhere. */
    private int place(int choice) {
        int last = 16 - width;
        return choice == 0 ? 0 : choice == 1 ? last : random.nextInt(last + 1);
    }

    public static void main(String[] args) {
        Due due = new Due();
        for (int run = 0; run < RUNS; run++) {
            new ModelTest(run).compare(due, run);
        }
        due.end();
    }

    private void compare(Due due, int run) {
        for (int i = 0; i < CALLS; i++) {
            int call = nextCall();
            int[] a = new int[4];
            String text = "run " + run + ", call " + i + ": " + NAMES[call] + "(";
            for (int k = 0; k < ARGUMENTS[call]; k++) {
                a[k] = random.nextInt(60) == 0 ? wrongNumber() : argument(call, k);
                text += (k > 0 ? ", " : "") + a[k];
            }
            String got = answer(() -> ask(call, a));
            String want = answer(() -> know(call, a));
            due.is(text + "): " + got + " and not " + want, got.equals(want) ? 0 : 1, 0);
        }
    }

    private int nextCall() {
        int all = 0;
        for (int share : SHARES) {
            all += share;
        }
        int drawn = random.nextInt(all);
        int call = 0;
        while (drawn >= SHARES[call]) {
            drawn -= SHARES[call];
            call++;
        }
        return call;
    }

    private int wrongNumber() {
        int[] numbers = {-1, 7, 8, 9, 10, 11, 16, 21, 101, Integer.MIN_VALUE, Integer.MAX_VALUE};
        return numbers[random.nextInt(numbers.length)];
    }

    /** A number that is right, for the argument k of a call. */
    private int argument(int call, int k) {
        String kind = new String[] {"xys", "xy5", "xypl", "noT", "n", "n8", "t", "8", "xyxy", "xyxy", "2", "nnm", "m3",
            "xy", "", ""}[call].substring(k, k + 1);
        switch (kind) {
            case "x":
                return left + random.nextInt(width);
            case "y":
                return top + random.nextInt(width);
            case "s":
                return new int[] {0, 0, 0, 0, 1, 1, 2, 3, 5, 9, 10}[random.nextInt(11)];
            case "p":
                return new int[] {0, 1, 2, 20}[random.nextInt(4)];
            case "l":
                return random.nextInt(5) * 2 + random.nextInt(2);
            case "n":
                return random.nextInt(Math.max(1, model.count(1)));
            case "o":
                return random.nextInt(7);
            case "T":
                return 1 + random.nextInt(random.nextInt(3) == 0 ? 9 : 2);
            case "t":
                return random.nextInt(25) == 0 ? 1 + random.nextInt(100) : 1 + random.nextInt(longestPass);
            case "m":
                return 1 + random.nextInt(random.nextInt(5) == 0 ? 100 : 12);
            default:
                return random.nextInt(Integer.parseInt(kind) + 1);
        }
    }

    private static String answer(LongSupplier asked) {
        try {
            return Long.toString(asked.getAsLong());
        } catch (RuntimeException thrown) {
            return thrown.getClass().getName();
        }
    }

    private long ask(int call, int[] a) {
        switch (call) {
            case 0: return maze.lay(a[0], a[1], a[2]);
            case 1: return maze.cell(a[0], a[1], a[2]);
            case 2: return maze.come(a[0], a[1], a[2], a[3]);
            case 3: return maze.order(a[0], a[1], a[2]);
            case 4: return maze.call(a[0]);
            case 5: return maze.tunneller(a[0], a[1]);
            case 6: return maze.pass(a[0]);
            case 7: return maze.count(a[0]);
            case 8: return maze.way(a[0], a[1], a[2], a[3]);
            case 9: return maze.dig(a[0], a[1], a[2], a[3]);
            case 10: return maze.caves(a[0]);
            case 11: return maze.meet(a[0], a[1], a[2]);
            case 12: return maze.foresee(a[0], a[1]);
            case 13: return maze.without(a[0], a[1]);
            case 14: return Double.doubleToLongBits(maze.light());
            default: return maze.digest();
        }
    }

    private long know(int call, int[] a) {
        switch (call) {
            case 0: return model.lay(a[0], a[1], a[2]);
            case 1: return model.cell(a[0], a[1], a[2]);
            case 2: return model.come(a[0], a[1], a[2], a[3]);
            case 3: return model.order(a[0], a[1], a[2]);
            case 4: return model.call(a[0]);
            case 5: return model.tunneller(a[0], a[1]);
            case 6: return model.pass(a[0]);
            case 7: return model.count(a[0]);
            case 8: return model.way(a[0], a[1], a[2], a[3]);
            case 9: return model.dig(a[0], a[1], a[2], a[3]);
            case 10: return model.caves(a[0]);
            case 11: return model.meet(a[0], a[1], a[2]);
            case 12: return model.foresee(a[0], a[1]);
            case 13: return model.without(a[0], a[1]);
            case 14: return Double.doubleToLongBits(model.light());
            default: return model.digest();
        }
    }
}
