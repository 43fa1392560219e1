/** Promise 3: the first and the last UNIT and PORT that may lead and be led to, and those that may not. */
public final class Edges03LeadTest {
    private static final int[] PORTS = {1, 1, 1, 2, 2, 1, 1, 0};

    public static void main(String[] args) {
        Check check = new Check();
        firstAndLastUnit(check);
        toNoneAnyMore(check);
        whereItLed(check);
        notThereYet(check);
        noSuchPort(check);
        toAFeed(check);
        noneComesFirst(check);
        refusedChangesNothing(check);
        check.end();
    }

    private static void firstAndLastUnit(Check check) {
        check.sentence("Promise 3", "A PORT LEADS to a UNIT");
        Probe x = Probe.ofTen(check, Works.JOIN);
        x.due(GrindWorks.NONE, "lead", 0, 0, 9).due(9, "about", 0, 5).due(GrindWorks.NONE, "lead", 9, 0, 0);
        x.due(0, "about", 9, 5).due(9, "lead", 0, 0, 0).due(0, "lead", 9, 0, 9).due(9, "about", 9, 5);
        x.due(GrindWorks.NONE, "lead", 0, 0, 10).due(0, "about", 0, 5).due(GrindWorks.NONE, "lead", 0, 0, -2);
        x.due(0, "about", 0, 5).due(GrindWorks.NONE, "lead", 10, 0, 0).due(GrindWorks.NONE, "lead", -1, 0, 0);
    }

    private static void toNoneAnyMore(Check check) {
        check.sentence("Promise 3", "(-1: to none any more)");
        Probe x = Probe.feeding(check, Works.FLOAT).does("rate", 0, 0, 10).does("run", 2);
        x.due(2, "lead", 1, 1, -1).due(GrindWorks.NONE, "about", 1, 6).due(2, "about", 1, 5);
        x.due(GrindWorks.NONE, "lead", 1, 1, -1).due(2, "lead", 1, 0, -1).due(GrindWorks.NONE, "about", 1, 5);
        x.does("run", 1).due(10, "about", 1, 8).due(10, "hold", 2, 0);
    }

    private static void whereItLed(Check check) {
        check.sentence("Promise 3", "where it led (NONE: nowhere, or none such).");
        Probe x = Probe.ofEachKind(check);
        for (int unit = 0; unit < 8; unit++) {
            for (int port = 0; port < PORTS[unit]; port++) {
                x.due(GrindWorks.NONE, "lead", unit, port, 1).due(1, "lead", unit, port, 7).due(7, "lead", unit, port, 7);
            }
        }
        // The two PORTS of one UNIT are not the same.
        x.due(7, "lead", 3, 0, 5).due(7, "lead", 3, 1, 6).due(5, "about", 3, 5).due(6, "about", 3, 6);
        x.due(6, "lead", 3, 1, -1).due(5, "lead", 3, 0, -1);
    }

    private static void notThereYet(Check check) {
        check.sentence("Promise 3", "or none such");
        Probe x = new Probe(check).does("unit", Works.FEED).due(GrindWorks.NONE, "lead", 0, 0, 1);
        x.does("rate", 0, 0, 4).does("unit", Works.END).due(GrindWorks.NONE, "about", 0, 5).does("run", 1);
        x.due(4, "about", 0, 8).due(0, "about", 1, 1).due(GrindWorks.NONE, "lead", 0, 0, 1).due(1, "about", 0, 5);
        x.does("run", 1).due(4, "about", 1, 1).due(GrindWorks.NONE, "lead", 2, 0, 1);
    }

    private static void noSuchPort(Check check) {
        check.sentence("Promise 3", "A PORT LEADS");
        Probe x = Probe.ofEachKind(check);
        for (int unit = 0; unit < 8; unit++) {
            for (int port = 0; port < PORTS[unit]; port++) {
                x.does("lead", unit, port, 7);
            }
            // A PORT that is there would answer 7.
            x.due(GrindWorks.NONE, "lead", unit, PORTS[unit], 7).due(GrindWorks.NONE, "lead", unit, PORTS[unit], 7);
            x.due(GrindWorks.NONE, "lead", unit, -1, 7).due(GrindWorks.NONE, "lead", unit, -1, 7);
        }
    }

    private static void toAFeed(Check check) {
        check.sentence("Promise 3", "BAD: to a FEED.");
        Probe x = new Probe(check).does("unit", Works.FEED);
        for (int i = 1; i < 9; i++) {
            x.does("unit", Works.SCREEN);
        }
        x.does("unit", Works.FEED).does("lead", 1, 0, 2).does("lead", 1, 1, 3);
        for (int feed = 0; feed < 10; feed += 9) {
            x.due(GrindWorks.BAD, "lead", 1, 0, feed).due(GrindWorks.BAD, "lead", 1, 1, feed);
            x.due(GrindWorks.BAD, "lead", 0, 0, feed).due(GrindWorks.BAD, "lead", 9, 0, feed);
        }
        x.due(2, "about", 1, 5).due(3, "about", 1, 6).due(GrindWorks.NONE, "about", 0, 5).due(GrindWorks.NONE, "about", 9, 5);
    }

    private static void noneComesFirst(Check check) {
        check.sentence("Promise 3", "(NONE: nowhere, or none such). BAD: to a FEED.");
        Probe x = Probe.ofEachKind(check);
        x.due(GrindWorks.NONE, "lead", 8, 0, 0).due(GrindWorks.NONE, "lead", -1, 0, 0);
        for (int unit = 0; unit < 8; unit++) {
            x.due(GrindWorks.NONE, "lead", unit, PORTS[unit], 0).due(GrindWorks.NONE, "lead", unit, -1, 0);
        }
    }

    private static void refusedChangesNothing(Check check) {
        check.sentence("Promise 3", "BAD: to a FEED.");
        Refused refused = new Refused(check, Script.busyWorks());
        refused.due(GrindWorks.BAD, "lead", 0, 0, 0).due(GrindWorks.BAD, "lead", 4, 1, 8).due(GrindWorks.BAD, "lead", 6, 0, 0);
        refused.due(GrindWorks.NONE, "lead", 2, 0, 9).due(GrindWorks.NONE, "lead", 2, 0, -2);
        refused.due(GrindWorks.NONE, "lead", 2, 1, 5).due(GrindWorks.NONE, "lead", 3, 2, 5).due(GrindWorks.NONE, "lead", 7, 0, 5);
        refused.due(GrindWorks.NONE, "lead", 3, -1, -1).due(GrindWorks.NONE, "lead", 9, 0, 7);
    }
}
