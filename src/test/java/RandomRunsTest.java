import java.util.Random;

/** Runs of 512 calls, chosen by a fixed seed, each answer against that of PlainWorks. */
public final class RandomRunsTest {
    private static final int RUNS = 400, CALLS = 512;

    /** A call and the greatest of each of its arguments; how often it is chosen is told by how often it stands here. */
    private static final Object[][] CALLS_WITH_BOUNDS = {
        {"unit", 7}, {"lead", 9, 1, 9}, {"lead", 9, 1, 9}, {"lead", 9, 1, 9}, {"rate", 9, 7, 1000}, {"rate", 9, 7, 30},
        {"table", 9, 3, 5, 4, 3}, {"table", 9, 3, 6, 0, 0}, {"set", 9, 3, 10}, {"set", 9, 1, 10}, {"set", 9, 0, 6},
        {"set", 9, 0, 5000}, {"set", 9, 0, 400}, {"control", 9, 9, 100000, 100000}, {"control", 9, 9, 300, 200},
        {"turn", 9, 1}, {"run", 60}, {"run", 3}, {"run", 3}, {"run", 3}, {"hold", 9, 7}, {"hold", 9, 7}, {"about", 9, 10},
        {"about", 9, 10}, {"about", 9, 10}, {"told", 9, 15}, {"told", 9, 1}, {"sum", 1, 3}, {"ledBack", 9, 9, 3, 1},
        {"ledBack", 9, 9, 3, 1}, {"reading", 9, 2, 100000, 100}, {"reading", 9, 2, 20, 9}, {"close", 9, 2, 1},
        {"close", 9, 2, 1}, {"load", 1000, 100, 1000}, {"load", 20, 100, 10}, {"unload"}, {"blend", 40, 100, 100},
        {"blend", 3000, 9000, 100}, {"count", 3}};

    public static void main(String[] args) {
        Check check = new Check();
        for (int run = 0; run < RUNS && check.isRight(); run++) {
            oneRun(check, run, new Random(run));
        }
        check.end();
    }

    private static void oneRun(Check check, int run, Random random) {
        GrindWorks x = new GrindWorks();
        PlainWorks y = new PlainWorks();
        int made = 0;
        for (; made < 10; made++) {
            // A FEED and an END always, the others as it comes.
            int kind = made == 0 ? 0 : made == 9 ? 7 : random.nextInt(8);
            ask(check, run, x, y, "unit", kind);
        }
        for (; made < CALLS - 8; made++) {
            Object[] call = CALLS_WITH_BOUNDS[random.nextInt(CALLS_WITH_BOUNDS.length)];
            if (call[0].equals("unload") && random.nextInt(5) != 0) {
                call = CALLS_WITH_BOUNDS[random.nextInt(CALLS_WITH_BOUNDS.length)];
            }
            int[] a = new int[call.length - 1];
            for (int i = 0; i < a.length; i++) {
                // In every second run the edges come five times as often.
                a[i] = argument(random, run % 2 == 0 ? 60 : 12, (Integer) call[i + 1]);
            }
            ask(check, run, x, y, (String) call[0], a);
        }
        for (int stuff = 0; stuff < 2; stuff++) {
            check.due("run " + run + ": IN is OUT, LOST and WITHIN of " + stuff, x.sum(stuff, 0),
                x.sum(stuff, 1) + x.sum(stuff, 2) + x.sum(stuff, 3));
        }
    }

    /** Most often from 0 to the bound, now and then the bound itself, next to it, -1 or far away. */
    private static int argument(Random random, int chances, int bound) {
        switch (random.nextInt(chances)) {
            case 0:
                return -1;
            case 1:
                return bound + 1;
            case 2:
                return bound;
            case 3:
                return random.nextInt();
            default:
                return random.nextInt(bound + 1);
        }
    }

    private static void ask(Check check, int run, GrindWorks x, PlainWorks y, String name, int... a) {
        Call call = new Call(name, a);
        check.due("run " + run + ": " + call.text(), call.on(x), y.call(name, a));
    }
}
