/** Terms, part 2: what a MILL breaks, what it cuts, what stays. */
public final class Terms2MillTest {
    public static void main(String[] args) {
        Check check = new Check();
        check.sentence("Terms 2", "MILL: all, broken: of each STUFF and SIZE i of n, to each SIZE j above i n times the"
            + " tenths by 10, cut; what is left stays SIZE i.");
        oneIsTooSmall(check);
        allTenths(check);
        cutEachOnItsOwn(check);
        oncePerMinute(check);
        noRest(check);
        theLeastSize(check);
        eachStuffOnItsOwn(check);
        nothing(check);
        check.end();
    }

    /** n of SIZE i to a MILL whose TABLE of SIZE i is as told, for one MINUTE; then what came to the END. */
    private static void row(Check check, int i, int n, int[] tenths, int... want) {
        for (int stuff = 0; stuff < 2; stuff++) {
            Probe x = Probe.feeding(check, Works.MILL).does("rate", 0, 2 * i + stuff, n);
            x.due(0, "table", 1, i, tenths[0], tenths[1], tenths[2]);
            x.does("run", 1).does("turn", 0, 0).does("run", 1).due(n, "about", 1, 9).due(0, "about", 1, 1);
            for (int size = 0; size < 4; size++) {
                x.due(want[size], "hold", 2, 2 * size + stuff).due(0, "hold", 2, 2 * size + 1 - stuff);
            }
        }
    }

    private static void oneIsTooSmall(Check check) {
        row(check, 0, 1, new int[] {9, 1, 0}, 1, 0, 0, 0);
        row(check, 0, 1, new int[] {0, 0, 9}, 1, 0, 0, 0);
        row(check, 0, 2, new int[] {4, 4, 2}, 2, 0, 0, 0);
        row(check, 0, 2, new int[] {5, 4, 1}, 1, 1, 0, 0);
    }

    private static void allTenths(Check check) {
        row(check, 0, 1, new int[] {10, 0, 0}, 0, 1, 0, 0);
        row(check, 0, 1, new int[] {0, 10, 0}, 0, 0, 1, 0);
        row(check, 0, 1, new int[] {0, 0, 10}, 0, 0, 0, 1);
        row(check, 1, 1, new int[] {10, 0, 0}, 0, 0, 1, 0);
        row(check, 1, 1000, new int[] {0, 10, 0}, 0, 0, 0, 1000);
        row(check, 2, 1000, new int[] {10, 0, 0}, 0, 0, 0, 1000);
        row(check, 0, 1000, new int[] {0, 0, 0}, 1000, 0, 0, 0);
    }

    private static void cutEachOnItsOwn(Check check) {
        row(check, 0, 9, new int[] {3, 3, 3}, 3, 2, 2, 2);
        row(check, 0, 9, new int[] {4, 3, 3}, 2, 3, 2, 2);
        row(check, 0, 19, new int[] {5, 5, 0}, 1, 9, 9, 0);
        row(check, 0, 10, new int[] {1, 2, 3}, 4, 1, 2, 3);
        row(check, 1, 999, new int[] {9, 1, 0}, 0, 1, 899, 99);
        row(check, 2, 11, new int[] {9, 0, 0}, 0, 0, 2, 9);
    }

    private static void oncePerMinute(Check check) {
        Probe x = Probe.feeding(check, Works.MILL).does("rate", 0, 1, 8).does("lead", 1, 0, 1);
        x.does("table", 1, 0, 10, 0, 0).does("table", 1, 1, 10, 0, 0).does("table", 1, 2, 10, 0, 0);
        x.does("run", 1).does("turn", 0, 0);
        for (int size = 0; size < 4; size++) {
            x.due(8, "hold", 1, 2 * size + 1).due(8, "about", 1, 1).does("run", 1);
        }
        x.due(8, "hold", 1, 7);
    }

    private static void noRest(Check check) {
        Probe x = Probe.feeding(check, Works.MILL).does("rate", 0, 0, 1).does("table", 1, 0, 9, 0, 0);
        x.does("run", 21).due(20, "hold", 2, 0).due(0, "hold", 2, 2);
    }

    private static void theLeastSize(Check check) {
        row(check, 3, 1000, new int[] {0, 0, 0}, 0, 0, 0, 1000);
    }

    private static void eachStuffOnItsOwn(Check check) {
        Probe x = Probe.feeding(check, Works.MILL).does("table", 1, 0, 5, 0, 0);
        x.does("rate", 0, 0, 1).does("rate", 0, 1, 1).does("rate", 0, 2, 1).does("run", 2);
        // One of each STUFF: neither is enough for a half to go, both together would be.
        x.due(1, "hold", 2, 0).due(1, "hold", 2, 1).due(1, "hold", 2, 2).due(0, "hold", 2, 3);
    }

    private static void nothing(Check check) {
        Probe x = Probe.feeding(check, Works.MILL).does("table", 1, 0, 3, 3, 3).does("run", 3);
        x.due(0, "about", 1, 9).due(0, "about", 2, 1);
    }
}
