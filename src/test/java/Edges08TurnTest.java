/** Promise 8: a FEED is on or off, and nothing else is either. */
public final class Edges08TurnTest {
    public static void main(String[] args) {
        Check check = new Check();
        whatItWas(check);
        noSuchUnit(check);
        noFeed(check);
        bad(check);
        order(check);
        refusedChangesNothing(check);
        check.end();
    }

    private static void whatItWas(Check check) {
        check.sentence("Promise 8", "A FEED is put on (1), off (0): what it was.");
        Probe x = Probe.feeding(check, Works.END).does("rate", 0, 0, 3);
        x.due(1, "turn", 0, 1).due(1, "about", 0, 7).due(1, "turn", 0, 0).due(0, "about", 0, 7).due(0, "turn", 0, 0);
        x.does("run", 2).due(0, "hold", 1, 0).due(0, "turn", 0, 1).due(1, "turn", 0, 1).does("run", 2).due(6, "hold", 1, 0);
        // One FEED of several.
        Probe y = Probe.ofTen(check, Works.FEED).due(1, "turn", 0, 0).due(1, "turn", 9, 0).due(8, "count", 3);
        for (int feed = 0; feed < 10; feed++) {
            y.due(feed % 9 == 0 ? 0 : 1, "about", feed, 7);
        }
    }

    private static void noSuchUnit(Check check) {
        check.sentence("Promise 8", "NONE;");
        Probe.ofTen(check, Works.FEED).due(GrindWorks.NONE, "turn", 10, 0).due(GrindWorks.NONE, "turn", -1, 0).due(10, "count", 3);
        new Probe(check).due(GrindWorks.NONE, "turn", 0, 0).does("unit", Works.FEED).due(1, "about", 0, 7)
            .due(GrindWorks.NONE, "turn", 1, 0).due(1, "turn", 0, 0);
    }

    private static void noFeed(Check check) {
        check.sentence("Promise 8", "STATE;");
        Probe x = Probe.ofEachKind(check);
        for (int unit = 1; unit < 8; unit++) {
            x.due(GrindWorks.STATE, "turn", unit, 0).due(GrindWorks.STATE, "turn", unit, 1).due(0, "about", unit, 7);
        }
        x.due(1, "count", 3);
    }

    private static void bad(Check check) {
        check.sentence("Promise 8", "BAD.");
        Probe x = Probe.ofEachKind(check);
        for (int was = 1; was >= 0; was--) {
            x.does("turn", 0, was).due(GrindWorks.BAD, "turn", 0, 2).due(GrindWorks.BAD, "turn", 0, -1);
            for (int strange : Works.STRANGE) {
                x.due(GrindWorks.BAD, "turn", 0, strange);
            }
            x.due(was, "about", 0, 7);
        }
    }

    private static void order(Check check) {
        check.sentence("Promise 8", "NONE; STATE; BAD.");
        Probe x = Probe.ofEachKind(check).due(GrindWorks.NONE, "turn", 8, 2).due(GrindWorks.NONE, "turn", -1, -1);
        for (int unit = 1; unit < 8; unit++) {
            x.due(GrindWorks.STATE, "turn", unit, 2).due(GrindWorks.STATE, "turn", unit, -1);
        }
    }

    private static void refusedChangesNothing(Check check) {
        check.sentence("Promise 8", "NONE; STATE; BAD.");
        Refused refused = new Refused(check, Script.busyWorks());
        refused.due(GrindWorks.BAD, "turn", 0, 2).due(GrindWorks.BAD, "turn", 8, 2).due(GrindWorks.BAD, "turn", 8, -1);
        refused.due(GrindWorks.NONE, "turn", 9, 1).due(GrindWorks.NONE, "turn", -1, 1).due(GrindWorks.STATE, "turn", 1, 1);
        refused.due(GrindWorks.STATE, "turn", 7, 0);
    }
}
