/** Promise 11: each look about a UNIT when there is nothing to see, and when there is; the looks that there are. */
public final class Edges11AboutTest {
    public static void main(String[] args) {
        Check check = new Check();
        atFirst(check);
        kind(check);
        holdSlotsAndLots(check);
        howManyLots(check);
        whereItLeads(check);
        whetherItIsOn(check);
        spilt(check);
        gaveInTheLatestMinute(check);
        noSuchUnit(check);
        noSuchWhat(check);
        lookingChangesNothing(check);
        check.end();
    }

    private static void atFirst(Check check) {
        check.sentence("Promise 11", "Of a UNIT what 0 KIND, 1 all in its HOLD, 2 in SLOTS, 3 in LOTS, 4 how many LOTS, 5"
            + " where PORT 0 LEADS (NONE), 6 PORT 1, 7 whether it is ON (of others 0), 8 what it has SPILT in all, 9 what"
            + " it gave in the latest MINUTE by PORT 0, 10 by PORT 1. NONE.");
        Probe x = Probe.ofEachKind(check);
        for (int unit = 0; unit < 8; unit++) {
            int[] want = {unit, 0, 0, 0, 0, GrindWorks.NONE, GrindWorks.NONE, unit == 0 ? 1 : 0, 0, 0, 0};
            for (int what = 0; what <= 10; what++) {
                x.due(want[what], "about", unit, what);
            }
        }
    }

    private static void kind(Check check) {
        check.sentence("Promise 11", "Of a UNIT what 0 KIND");
        Probe x = Probe.ofEachKind(check).does("run", 5).does("unit", Works.FEED).does("unit", Works.END);
        int[] kinds = {0, 1, 2, 3, 4, 5, 6, 7, 0, 7};
        for (int unit = 0; unit < 10; unit++) {
            x.due(kinds[unit], "about", unit, 0);
        }
    }

    private static void holdSlotsAndLots(Check check) {
        check.sentence("Promise 11", "1 all in its HOLD, 2 in SLOTS, 3 in LOTS");
        for (int unit = 1; unit < 8; unit++) {
            Probe x = Probe.feeding(check, unit);
            for (int cell = 0; cell < 8; cell++) {
                x.does("rate", 0, cell, 1000);
            }
            x.does("set", 1, 0, unit == Works.TANK ? 6 : 0).does("run", 3).due(unit == Works.END ? 24000 : 8000, "about", 1, 1);
            x.due(unit == Works.TANK ? 16000 : 0, "about", 1, 2).due(unit == Works.PILE ? 16000 : 0, "about", 1, 3);
            x.due(0, "about", 0, 1).due(0, "about", 0, 2).due(0, "about", 0, 3);
        }
    }

    private static void howManyLots(Check check) {
        check.sentence("Promise 11", "4 how many LOTS");
        Probe x = Probe.feeding(check, Works.PILE).does("set", 1, 0, 0).does("rate", 0, 0, 1).due(0, "about", 1, 4);
        for (int minute = 1; minute <= 24; minute++) {
            x.does("run", 1).due(Math.min(minute - 1, 20), "about", 1, 4);
        }
        x.does("turn", 0, 0).does("set", 1, 0, 5000).does("run", 1).due(0, "about", 1, 4).due(0, "about", 1, 3);
        Probe tank = Probe.feeding(check, Works.TANK).does("set", 1, 0, 6).does("rate", 0, 0, 1).does("run", 5);
        tank.due(0, "about", 1, 4);
    }

    private static void whereItLeads(Check check) {
        check.sentence("Promise 11", "5 where PORT 0 LEADS (NONE), 6 PORT 1");
        Probe x = Probe.ofEachKind(check);
        for (int unit = 0; unit < 8; unit++) {
            boolean hasOne = unit != Works.END;
            boolean hasTwo = unit == Works.SCREEN || unit == Works.FLOAT;
            x.does("lead", unit, 0, 1).does("lead", unit, 1, 7);
            x.due(hasOne ? 1 : GrindWorks.NONE, "about", unit, 5).due(hasTwo ? 7 : GrindWorks.NONE, "about", unit, 6);
            x.does("lead", unit, 0, -1).due(GrindWorks.NONE, "about", unit, 5);
            x.due(hasTwo ? 7 : GrindWorks.NONE, "about", unit, 6).does("lead", unit, 1, -1).due(GrindWorks.NONE, "about", unit, 6);
        }
        Probe.ofTen(check, Works.SCREEN).does("lead", 9, 0, 9).does("lead", 9, 1, 0).due(9, "about", 9, 5).due(0, "about", 9, 6);
    }

    private static void whetherItIsOn(Check check) {
        check.sentence("Promise 11", "7 whether it is ON (of others 0)");
        Probe x = Probe.ofEachKind(check);
        for (int unit = 0; unit < 8; unit++) {
            x.due(unit == 0 ? 1 : 0, "about", unit, 7).does("turn", unit, 0).due(0, "about", unit, 7);
            x.does("turn", unit, 1).due(unit == 0 ? 1 : 0, "about", unit, 7);
        }
        // ON with a RATE of nothing is ON.
        x.does("run", 3).due(1, "about", 0, 7);
    }

    private static void spilt(Check check) {
        check.sentence("Promise 11", "8 what it has SPILT in all");
        Probe x = Probe.feeding(check, Works.FLOAT).does("lead", 1, 0, -1).does("lead", 1, 1, -1);
        x.does("rate", 0, 0, 3).does("rate", 0, 7, 8).does("run", 1).due(0, "about", 1, 8).does("run", 3).due(33, "about", 1, 8);
        x.due(0, "about", 0, 8).due(0, "about", 2, 8).does("lead", 1, 0, 2).does("lead", 1, 1, 2).does("run", 5);
        x.due(33, "about", 1, 8);
    }

    private static void gaveInTheLatestMinute(Check check) {
        check.sentence("Promise 11", "9 what it gave in the latest MINUTE by PORT 0, 10 by PORT 1.");
        Probe x = Probe.feeding(check, Works.SCREEN).does("set", 1, 0, 7).does("rate", 0, 0, 10).due(0, "about", 0, 9);
        x.does("run", 1).due(10, "about", 0, 9).due(0, "about", 0, 10).due(0, "about", 1, 9).due(0, "about", 1, 10);
        x.does("run", 5).due(10, "about", 0, 9).due(7, "about", 1, 9).due(3, "about", 1, 10).due(0, "about", 2, 9);
        // Until the next MINUTE it stays told, whatever is told meanwhile; then it is what that one gave.
        x.does("turn", 0, 0).does("rate", 0, 0, 500).does("lead", 1, 0, -1).does("set", 1, 0, 0).does("run", 61);
        x.due(10, "about", 0, 9).due(7, "about", 1, 9).due(3, "about", 1, 10).does("run", 1).due(0, "about", 0, 9);
        x.due(0, "about", 1, 9).due(10, "about", 1, 10).does("run", 1).due(0, "about", 1, 10);
        // What is SPILT was given too.
        Probe y = Probe.feeding(check, Works.JOIN).does("lead", 0, 0, -1).does("rate", 0, 3, 6).does("run", 2);
        y.due(6, "about", 0, 9).due(12, "about", 0, 8);
    }

    private static void noSuchUnit(Check check) {
        check.sentence("Promise 11", "NONE.");
        Probe x = new Probe(check);
        for (int unit = 0; unit < 10; unit++) {
            x.due(GrindWorks.NONE, "about", unit, 8).does("unit", Works.FEED).due(0, "about", unit, 8);
        }
        for (int what = 0; what <= 10; what++) {
            x.due(GrindWorks.NONE, "about", 10, what).due(GrindWorks.NONE, "about", -1, what);
        }
    }

    private static void noSuchWhat(Check check) {
        check.sentence("Promise 11", "10 by PORT 1. NONE.");
        Probe x = Probe.ofEachKind(check);
        for (int unit = 0; unit < 8; unit++) {
            x.due(GrindWorks.NONE, "about", unit, 11).due(GrindWorks.NONE, "about", unit, -1);
            for (int strange : Works.STRANGE) {
                x.due(GrindWorks.NONE, "about", unit, strange);
            }
        }
    }

    private static void lookingChangesNothing(Check check) {
        check.sentence("Promise 11", "NONE.");
        Refused refused = new Refused(check, Script.busyWorks());
        for (int what = 0; what <= 10; what++) {
            refused.due(Script.busyWorks().then("about", 6, what).answer(), "about", 6, what);
        }
        refused.due(GrindWorks.NONE, "about", 6, 11).due(GrindWorks.NONE, "about", 6, -1).due(GrindWorks.NONE, "about", 9, 0);
    }
}
