/** Promise 4: the first and the last cell and number of a RATE, and those that are refused. */
public final class Edges04RateTest {
    public static void main(String[] args) {
        Check check = new Check();
        whatItWas(check);
        cells(check);
        noSuchUnit(check);
        noFeed(check);
        bad(check);
        order(check);
        refusedChangesNothing(check);
        check.end();
    }

    private static void whatItWas(Check check) {
        check.sentence("Promise 4", "A cell of a FEED's RATE: what it was.");
        Probe x = Probe.feeding(check, Works.END);
        x.due(0, "rate", 0, 0, 1000).due(1000, "rate", 0, 0, 1).due(1, "rate", 0, 0, 0).due(0, "rate", 0, 0, 999);
        x.due(GrindWorks.BAD, "rate", 0, 0, 1001).due(999, "rate", 0, 0, 999);
        // It counts from the next MINUTE on.
        x.does("run", 1).due(999, "hold", 1, 0).due(999, "rate", 0, 0, 1).due(999, "about", 0, 9).does("run", 1);
        x.due(1000, "hold", 1, 0).due(1, "about", 0, 9);
    }

    private static void cells(Check check) {
        check.sentence("Promise 4", "NONE");
        Probe x = Probe.ofEachKind(check).due(0, "rate", 0, 0, 5).due(0, "rate", 0, 7, 6);
        x.due(GrindWorks.NONE, "rate", 0, -1, 7).due(GrindWorks.NONE, "rate", 0, 8, 7);
        x.due(5, "told", 0, 0).due(6, "told", 0, 7);
        for (int cell = 1; cell < 7; cell++) {
            x.due(0, "told", 0, cell);
        }
    }

    private static void noSuchUnit(Check check) {
        check.sentence("Promise 4", "NONE;");
        Probe x = new Probe(check).due(GrindWorks.NONE, "rate", 0, 0, 5);
        for (int i = 0; i < 10; i++) {
            x.due(GrindWorks.NONE, "rate", i, 0, 5).due(i, "unit", Works.FEED).due(0, "rate", i, 0, 5);
        }
        x.due(GrindWorks.NONE, "rate", 10, 0, 5).due(GrindWorks.NONE, "rate", -1, 0, 5);
    }

    private static void noFeed(Check check) {
        check.sentence("Promise 4", "STATE: no FEED");
        Probe x = Probe.ofEachKind(check).due(0, "rate", 0, 0, 5);
        for (int unit = 1; unit < 8; unit++) {
            x.due(GrindWorks.STATE, "rate", unit, 0, 5).due(GrindWorks.STATE, "rate", unit, 7, 0);
        }
    }

    private static void bad(Check check) {
        check.sentence("Promise 4", "BAD.");
        Probe x = Probe.ofEachKind(check);
        for (int cell = 0; cell < 8; cell++) {
            x.due(0, "rate", 0, cell, 1000).due(GrindWorks.BAD, "rate", 0, cell, 1001).due(1000, "rate", 0, cell, 0);
            x.due(GrindWorks.BAD, "rate", 0, cell, -1).due(0, "told", 0, cell);
        }
        for (int strange : Works.STRANGE) {
            x.due(GrindWorks.BAD, "rate", 0, 0, strange);
        }
    }

    private static void order(Check check) {
        check.sentence("Promise 4", "NONE; STATE: no FEED; BAD.");
        Probe x = Probe.ofEachKind(check).due(GrindWorks.NONE, "rate", 8, 0, 1001).due(GrindWorks.NONE, "rate", 8, 8, 5);
        x.due(GrindWorks.NONE, "rate", 0, 8, 1001).due(GrindWorks.NONE, "rate", 0, -1, -1);
        for (int unit = 1; unit < 8; unit++) {
            x.due(GrindWorks.NONE, "rate", unit, 8, 5).due(GrindWorks.NONE, "rate", unit, -1, -1);
            x.due(GrindWorks.STATE, "rate", unit, 7, 1001).due(GrindWorks.STATE, "rate", unit, 0, -1);
        }
    }

    private static void refusedChangesNothing(Check check) {
        check.sentence("Promise 4", "NONE; STATE: no FEED; BAD.");
        Refused refused = new Refused(check, Script.busyWorks());
        refused.due(GrindWorks.BAD, "rate", 0, 0, 1001).due(GrindWorks.BAD, "rate", 0, 0, -1).due(GrindWorks.BAD, "rate", 8, 7, -1);
        refused.due(GrindWorks.NONE, "rate", 0, 8, 3).due(GrindWorks.NONE, "rate", 0, -1, 3).due(GrindWorks.NONE, "rate", 9, 0, 3);
        for (int unit = 1; unit < 8; unit++) {
            refused.due(GrindWorks.STATE, "rate", unit, 0, 3);
        }
    }
}
