/** Terms, part 2: how long a TANK holds. */
public final class Terms2TankTest {
    public static void main(String[] args) {
        Check check = new Check();
        eachTime(check);
        nothingToo(check);
        theSlotOfThisMinute(check);
        timeOrMore(check);
        timeGrows(check);
        slotsAreAmounts(check);
        check.end();
    }

    /** A TANK into whose HOLD the numbers came, one a MINUTE; the FEED gives no more, nothing has gone out yet. */
    private static Probe tankWith(Check check, int time, int... numbers) {
        Probe x = Probe.feeding(check, Works.TANK).does("set", 1, 0, time);
        for (int n : numbers) {
            x.does("rate", 0, 0, n).does("run", 1).due(0, "about", 1, 9);
        }
        return x.does("turn", 0, 0);
    }

    private static void eachTime(Check check) {
        check.sentence("Terms 2", "then all SLOTS go out that lie there for TIME minutes or more, the one of this MINUTE"
            + " for 1.");
        for (int time = 1; time <= 6; time++) {
            Probe x = tankWith(check, time, 11);
            for (int minute = 1; minute < time; minute++) {
                x.does("run", 1).due(0, "about", 1, 9).due(11, "about", 1, 2).due(0, "about", 1, 1);
            }
            x.does("run", 1).due(11, "about", 1, 9).due(0, "about", 1, 2).due(11, "hold", 2, 0);
            x.does("run", 1).due(0, "about", 1, 9);
        }
    }

    private static void nothingToo(Check check) {
        check.sentence("Terms 2", "TANK: what is in its HOLD (nothing, too) goes into a SLOT");
        Probe x = tankWith(check, 6, 1, 0, 2, 0, 0, 4);
        int[] want = {1, 0, 2, 0, 0, 4, 0, 0};
        for (int n : want) {
            x.does("run", 1).due(n, "about", 1, 9);
        }
        x.due(0, "about", 1, 2).due(7, "hold", 2, 0);
        // Long with nothing, then it holds as long as before.
        x.does("run", 20).does("turn", 0, 1).does("run", 1).does("turn", 0, 0).does("run", 5).due(4, "about", 1, 2);
        x.does("run", 1).due(4, "about", 1, 9);
    }

    private static void theSlotOfThisMinute(Check check) {
        check.sentence("Terms 2", "the one of this MINUTE for 1.");
        Probe x = tankWith(check, 6, 1, 2, 3).does("set", 1, 0, 1).does("run", 1);
        x.due(6, "about", 1, 9).due(0, "about", 1, 2).due(0, "about", 1, 1);
    }

    private static void timeOrMore(Check check) {
        check.sentence("Terms 2", "all SLOTS go out that lie there for TIME minutes or more");
        int[] numbers = {1, 2, 4, 8, 16};
        for (int time = 1; time <= 6; time++) {
            Probe x = tankWith(check, 6, numbers).due(1 + 2 + 4 + 8, "about", 1, 2).does("set", 1, 0, time).does("run", 1);
            // The last number lies in its SLOT for 1 minute now, the one before it for 2, and so on.
            int out = 0;
            for (int age = time; age <= 5; age++) {
                out += numbers[5 - age];
            }
            x.due(out, "about", 1, 9).due(31 - out, "about", 1, 2);
            x.does("run", 1).due(time <= 5 && time > 1 ? numbers[6 - time] : time == 6 ? 1 : 0, "about", 1, 9);
        }
    }

    private static void timeGrows(Check check) {
        check.sentence("Terms 2", "that lie there for TIME minutes or more");
        Probe x = tankWith(check, 3, 5, 7).does("run", 1).due(12, "about", 1, 2).does("set", 1, 0, 6);
        x.does("run", 3).due(0, "about", 1, 9).due(12, "about", 1, 2);
        x.does("run", 1).due(5, "about", 1, 9).does("run", 1).due(7, "about", 1, 9).due(0, "about", 1, 2);
    }

    private static void slotsAreAmounts(Check check) {
        check.sentence("Terms 2", "TANK: what is in its HOLD");
        Probe x = Probe.feeding(check, Works.TANK).does("set", 1, 0, 2);
        for (int cell = 0; cell < 8; cell++) {
            x.does("rate", 0, cell, 1000 - cell);
        }
        x.does("run", 1).does("turn", 0, 0).does("run", 2).due(8000 - 28, "about", 1, 9);
        for (int cell = 0; cell < 8; cell++) {
            x.due(1000 - cell, "hold", 2, cell);
        }
    }
}
