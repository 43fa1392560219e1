/** Promise 7: the first and the last STOP and START that are taken, and those that are refused. */
public final class Edges07ControlTest {
    public static void main(String[] args) {
        Check check = new Check();
        inPlaceOfTheOneBefore(check);
        byAnyUnit(check);
        noSuchUnit(check);
        noFeed(check);
        stopAndStart(check);
        startAboveStop(check);
        order(check);
        refusedChangesNothing(check);
        check.end();
    }

    private static void inPlaceOfTheOneBefore(Check check) {
        check.sentence("Promise 7", "CONTROL of a FEED by a UNIT (in place of the one before): 0.");
        // FEED 0 to JOIN 1, which holds 10 from then on, to END 2, which has more each MINUTE.
        Probe x = Probe.feeding(check, Works.JOIN).does("rate", 0, 0, 10).due(0, "control", 0, 2, 5, 0);
        x.due(0, "control", 0, 1, 10, 0).does("run", 5).due(40, "about", 2, 1).due(1, "about", 0, 7);
        x.due(0, "control", 0, 1, 9, 0).due(1, "about", 0, 7).does("run", 1).due(0, "about", 0, 7);
        // Another STOP and START of the same UNIT.
        x.due(0, "control", 0, 1, 9, 9).does("run", 1).due(1, "about", 0, 7);
        // Two FEEDS have each their own.
        Probe y = Probe.feeding(check, Works.END).does("unit", Works.FEED).does("lead", 3, 0, 2);
        y.does("rate", 0, 0, 1).does("rate", 3, 0, 1).does("control", 0, 1, 1, 0).does("control", 3, 2, 2, 0).does("run", 2);
        y.due(0, "about", 0, 7).due(1, "about", 3, 7).does("run", 1).due(0, "about", 3, 7).due(0, "count", 3);
    }

    private static void byAnyUnit(Check check) {
        check.sentence("Promise 7", "CONTROL of a FEED by a UNIT");
        Probe x = Probe.ofEachKind(check).does("turn", 0, 0);
        for (int by = 0; by < 8; by++) {
            x.due(0, "control", 0, by, 0, 0).does("run", 1).due(0, "about", 0, 7);
            x.due(0, "control", 0, by, 1, 1).does("run", 1).due(1, "turn", 0, 0);
        }
        Probe last = Probe.ofTen(check, Works.FEED).due(0, "control", 9, 9, 0, 0).due(0, "control", 0, 9, 1, 1);
        last.does("turn", 0, 0).does("turn", 9, 0).does("run", 1).due(1, "about", 0, 7).due(0, "about", 9, 7);
        last.due(0, "control", 9, 0, 1, 1).does("run", 1).due(1, "about", 9, 7).due(10, "count", 3);
    }

    private static void noSuchUnit(Check check) {
        check.sentence("Promise 7", "NONE;");
        Probe x = Probe.ofTen(check, Works.FEED);
        x.due(GrindWorks.NONE, "control", 10, 0, 5, 5).due(GrindWorks.NONE, "control", -1, 0, 5, 5);
        x.due(GrindWorks.NONE, "control", 0, 10, 5, 5).due(GrindWorks.NONE, "control", 0, -1, 5, 5);
        new Probe(check).due(GrindWorks.NONE, "control", 0, 0, 5, 5);
        // A UNIT that comes later is not controlled by what was refused.
        Probe y = new Probe(check).does("unit", Works.FEED).due(GrindWorks.NONE, "control", 0, 1, 5, 5);
        y.does("turn", 0, 0).does("unit", Works.END).does("run", 1).due(0, "about", 0, 7);
    }

    private static void noFeed(Check check) {
        check.sentence("Promise 7", "STATE: no FEED");
        Probe x = Probe.ofEachKind(check);
        for (int unit = 0; unit < 8; unit++) {
            x.due(unit == 0 ? 0 : GrindWorks.STATE, "control", unit, 0, 5, 5);
            x.due(unit == 0 ? 0 : GrindWorks.STATE, "control", unit, 7, 5, 5);
        }
    }

    private static void stopAndStart(Check check) {
        check.sentence("Promise 7", "BAD: STOP, START not 0 .. 100000");
        Probe x = Probe.ofEachKind(check);
        x.due(0, "control", 0, 1, 0, 0).due(0, "control", 0, 1, 100000, 0).due(0, "control", 0, 1, 100000, 100000);
        x.due(GrindWorks.BAD, "control", 0, 1, -1, -1).due(GrindWorks.BAD, "control", 0, 1, 0, -1);
        x.due(GrindWorks.BAD, "control", 0, 1, -1, 0).due(GrindWorks.BAD, "control", 0, 1, 100000, -1);
        x.due(GrindWorks.BAD, "control", 0, 1, 100001, 0).due(GrindWorks.BAD, "control", 0, 1, 100001, 100000);
        x.due(GrindWorks.BAD, "control", 0, 1, 100001, 100001).due(GrindWorks.BAD, "control", 0, 1, 100000, 100001);
        for (int strange : Works.STRANGE) {
            x.due(GrindWorks.BAD, "control", 0, 1, strange, 0).due(GrindWorks.BAD, "control", 0, 1, 100000, strange);
            x.due(GrindWorks.BAD, "control", 0, 1, strange, strange);
        }
    }

    private static void startAboveStop(Check check) {
        check.sentence("Promise 7", "START above STOP.");
        Probe x = Probe.ofEachKind(check).due(0, "control", 0, 1, 50, 50).due(GrindWorks.BAD, "control", 0, 1, 50, 51);
        x.due(GrindWorks.BAD, "control", 0, 1, 0, 1).due(GrindWorks.BAD, "control", 0, 1, 99999, 100000);
        x.due(0, "control", 0, 1, 1, 0).due(GrindWorks.BAD, "control", 0, 1, 0, 100000);
    }

    private static void order(Check check) {
        check.sentence("Promise 7", "NONE; STATE: no FEED; BAD: STOP, START not 0 .. 100000, START above STOP.");
        Probe x = Probe.ofEachKind(check).due(GrindWorks.NONE, "control", 8, 0, 5, 6).due(GrindWorks.NONE, "control", 0, 8, 5, 6);
        x.due(GrindWorks.NONE, "control", 8, 8, -1, -1).due(GrindWorks.NONE, "control", 0, -1, -1, 0);
        for (int unit = 1; unit < 8; unit++) {
            x.due(GrindWorks.NONE, "control", unit, 8, 5, 5).due(GrindWorks.NONE, "control", unit, -1, 5, 6);
            x.due(GrindWorks.STATE, "control", unit, 0, 5, 6).due(GrindWorks.STATE, "control", unit, 0, -1, -1);
        }
    }

    private static void refusedChangesNothing(Check check) {
        check.sentence("Promise 7", "NONE; STATE: no FEED; BAD: STOP, START not 0 .. 100000, START above STOP.");
        // FEED 0 has a CONTROL, FEED 8 has none: either would be seen to change within five MINUTES.
        Refused refused = new Refused(check, Script.busyWorks());
        for (int feed = 0; feed < 9; feed += 8) {
            refused.due(GrindWorks.BAD, "control", feed, 1, 0, 1).due(GrindWorks.BAD, "control", feed, 1, 100001, 100000);
            refused.due(GrindWorks.BAD, "control", feed, 7, 0, -1).due(GrindWorks.BAD, "control", feed, 7, -1, -1);
            refused.due(GrindWorks.NONE, "control", feed, 9, 1, 1).due(GrindWorks.NONE, "control", feed, -1, 1, 1);
        }
        refused.due(GrindWorks.NONE, "control", 9, 1, 1, 1).due(GrindWorks.STATE, "control", 1, 1, 1, 1);
    }
}
