/** Terms, part 2: when a CONTROL puts a FEED off and on, and when it leaves it. */
public final class Terms2ControlTest {
    public static void main(String[] args) {
        Check check = new Check();
        moreThanStop(check);
        lessThanStart(check);
        elseAsItWas(check);
        theGreatestLevels(check);
        holdSlotsAndLots(check);
        behindAMinute(check);
        behindEachMinute(check);
        stopAndStartAreOne(check);
        noControlAtFirst(check);
        check.end();
    }

    /** A FEED and an END with so much in it; the FEED gives nothing more as long as its RATE is 0. */
    private static Probe endWith(Check check, int level) {
        Probe x = Probe.feeding(check, Works.END).does("rate", 0, 0, level).does("run", 1).does("rate", 0, 0, 0);
        return x.due(level, "about", 1, 1);
    }

    private static void due(Check check, int level, int stop, int start, int... wasAndIs) {
        for (int i = 0; i < wasAndIs.length; i += 2) {
            Probe x = endWith(check, level).due(0, "control", 0, 1, stop, start).does("turn", 0, wasAndIs[i]);
            x.due(wasAndIs[i], "about", 0, 7).does("run", 1).due(wasAndIs[i + 1], "about", 0, 7);
            x.due(wasAndIs[i + 1], "count", 3);
        }
    }

    private static void moreThanStop(Check check) {
        check.sentence("Terms 2", "CONTROL: a FEED is put off when, behind a MINUTE, all that is in a told UNIT (HOLD,"
            + " SLOTS, LOTS) is more than STOP");
        due(check, 50, 50, 10, 0, 0, 1, 1);
        due(check, 51, 50, 10, 0, 0, 1, 0);
        due(check, 1000, 50, 10, 0, 0, 1, 0);
        due(check, 0, 0, 0, 0, 0, 1, 1);
        due(check, 1, 0, 0, 0, 0, 1, 0);
    }

    private static void lessThanStart(Check check) {
        check.sentence("Terms 2", "put on when it is less than START");
        due(check, 10, 50, 10, 0, 0, 1, 1);
        due(check, 9, 50, 10, 0, 1, 1, 1);
        due(check, 0, 50, 10, 0, 1, 1, 1);
        due(check, 0, 50, 1, 0, 1, 1, 1);
        due(check, 0, 50, 0, 0, 0, 1, 1);
    }

    private static void elseAsItWas(Check check) {
        check.sentence("Terms 2", "else as it was.");
        due(check, 11, 50, 10, 0, 0, 1, 1);
        due(check, 30, 50, 10, 0, 0, 1, 1);
        due(check, 49, 50, 10, 0, 0, 1, 1);
    }

    private static void stopAndStartAreOne(Check check) {
        check.sentence("Terms 2", "(START not above STOP)");
        due(check, 19, 20, 20, 0, 1, 1, 1);
        due(check, 20, 20, 20, 0, 0, 1, 1);
        due(check, 21, 20, 20, 0, 0, 1, 0);
        endWith(check, 20).due(GrindWorks.BAD, "control", 0, 1, 20, 21);
    }

    private static void theGreatestLevels(Check check) {
        check.sentence("Terms 2", "is more than STOP, put on when it is less than START");
        Probe x = Probe.feeding(check, Works.END);
        for (int cell = 0; cell < 5; cell++) {
            x.does("rate", 0, cell, 1000);
        }
        x.due(0, "control", 0, 1, 100000, 100000).does("turn", 0, 1).does("run", 20);
        x.due(100000, "about", 1, 1).due(1, "about", 0, 7);
        for (int cell = 1; cell < 5; cell++) {
            x.does("rate", 0, cell, 0);
        }
        x.does("turn", 0, 0).does("run", 1).due(0, "about", 0, 7).does("turn", 0, 1).does("rate", 0, 0, 1);
        x.does("run", 1).due(100001, "about", 1, 1).due(0, "about", 0, 7).does("run", 5).due(100001, "about", 1, 1);
    }

    private static void holdSlotsAndLots(Check check) {
        check.sentence("Terms 2", "all that is in a told UNIT (HOLD, SLOTS, LOTS)");
        for (int kind = Works.TANK; kind <= Works.PILE; kind++) {
            // 4 in the HOLD and 8 in SLOTS or LOTS: 12 are no more than 12, but more than 11.
            for (int stop = 11; stop <= 12; stop++) {
                Probe x = Probe.feeding(check, kind).does("set", 1, 0, kind == Works.TANK ? 6 : 0);
                x.does("rate", 0, 0, 1).does("rate", 0, 7, 3).does("control", 0, 1, stop, 0).does("run", 3);
                x.due(4, "about", 1, 1).due(8, "about", 1, kind == Works.TANK ? 2 : 3).due(stop - 11, "about", 0, 7);
            }
        }
        // What a UNIT has SPILT or given is not in it.
        Probe x = Probe.feeding(check, Works.JOIN).does("lead", 1, 0, -1).does("rate", 0, 0, 5);
        x.does("control", 0, 1, 5, 0).does("run", 9).due(40, "about", 1, 8).due(1, "about", 0, 7);
    }

    private static void behindAMinute(Check check) {
        check.sentence("Terms 2", "behind a MINUTE");
        Probe x = endWith(check, 30).does("rate", 0, 0, 1).due(0, "control", 0, 1, 29, 0).due(1, "about", 0, 7);
        x.does("run", 1).due(1, "about", 0, 9).due(31, "about", 1, 1).due(0, "about", 0, 7);
        x.does("run", 1).due(0, "about", 0, 9).due(31, "about", 1, 1);
        // turn puts it on; the MINUTE goes by with it on; behind it the CONTROL puts it off again.
        x.due(0, "turn", 0, 1).due(1, "about", 0, 7).does("run", 1).due(1, "about", 0, 9).due(0, "about", 0, 7);
        x.due(32, "about", 1, 1);
    }

    private static void behindEachMinute(Check check) {
        check.sentence("Terms 2", "a FEED is put off when, behind a MINUTE");
        Probe x = Probe.feeding(check, Works.END).does("rate", 0, 0, 10).does("control", 0, 1, 29, 0).does("run", 60);
        x.due(30, "about", 1, 1).due(30, "sum", 0, 0).due(0, "about", 0, 9);
        // It is the level of this MINUTE, when all has come: the JOIN is empty behind every second one.
        Probe y = Probe.feeding(check, Works.JOIN).does("rate", 0, 0, 10).does("control", 0, 1, 0, 0);
        y.does("run", 1).due(0, "about", 0, 7).does("control", 0, 1, 9, 1).does("run", 1).due(1, "about", 0, 7);
        for (int i = 0; i < 6; i++) {
            y.does("run", 1).due(i % 2, "about", 0, 7);
        }
    }

    private static void noControlAtFirst(Check check) {
        check.sentence("Terms 2", "in a told UNIT");
        Probe x = Probe.feeding(check, Works.END).does("rate", 0, 0, 1000).does("run", 60).due(1, "about", 0, 7);
        x.does("turn", 0, 0).does("run", 60).due(0, "about", 0, 7).due(60000, "hold", 1, 0);
    }
}
