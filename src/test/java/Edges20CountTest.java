/** Promise 20: each count at nothing, at its greatest, and the counts that there are not. */
public final class Edges20CountTest {
    public static void main(String[] args) {
        Check check = new Check();
        nothingYet(check);
        units(check);
        minutes(check);
        loads(check);
        feedsThatAreOn(check);
        noSuchWhat(check);
        lookingChangesNothing(check);
        check.end();
    }

    private static void nothingYet(Check check) {
        check.sentence("Promise 20", "0 UNITS, 1 MINUTES, 2 LOADS, 3 FEEDS that are ON. NONE.");
        new Probe(check).due(0, "count", 0).due(0, "count", 1).due(0, "count", 2).due(0, "count", 3);
    }

    private static void units(Check check) {
        check.sentence("Promise 20", "0 UNITS");
        Probe x = new Probe(check);
        for (int i = 0; i < 10; i++) {
            x.due(i, "count", 0).does("unit", i % 8);
        }
        x.due(10, "count", 0).does("unit", 0).due(10, "count", 0).does("unit", 8).due(10, "count", 0);
    }

    private static void minutes(Check check) {
        check.sentence("Promise 20", "1 MINUTES");
        Probe x = new Probe(check).does("run", 0).due(0, "count", 1).does("run", 1).due(1, "count", 1).does("run", 61);
        x.due(1, "count", 1);
        for (int i = 1; i < 50; i++) {
            x.does("run", 60);
        }
        x.due(2941, "count", 1).does("run", 60).due(2941, "count", 1).does("run", 59).due(3000, "count", 1).does("run", 1);
        x.due(3000, "count", 1);
    }

    private static void loads(Check check) {
        check.sentence("Promise 20", "2 LOADS");
        Probe x = new Probe(check).does("load", 0, 0, 0).due(0, "count", 2);
        for (int i = 0; i < 10; i++) {
            x.due(i, "count", 2).does("load", 1, 0, 0);
        }
        x.due(10, "count", 2).does("load", 1, 0, 0).due(10, "count", 2).does("unload").due(0, "count", 2);
    }

    private static void feedsThatAreOn(Check check) {
        check.sentence("Promise 20", "3 FEEDS that are ON");
        Probe x = Probe.ofTen(check, Works.FEED).due(10, "count", 3);
        for (int feed = 0; feed < 10; feed++) {
            x.does("turn", feed, 0).due(9 - feed, "count", 3).does("turn", feed, 0).due(9 - feed, "count", 3);
        }
        x.does("turn", 9, 1).due(1, "count", 3).does("turn", 0, 1).due(2, "count", 3);
        // UNITS that are no FEEDS are not ON; a CONTROL counts as well as a turn.
        Probe y = new Probe(check);
        for (int kind = 1; kind < 8; kind++) {
            y.does("unit", kind).due(0, "count", 3);
        }
        y.does("unit", Works.FEED).due(1, "count", 3).does("turn", 7, 0).due(0, "count", 3);
        y.does("control", 7, 0, 1, 1).due(0, "count", 3).does("run", 1).due(1, "count", 3);
    }

    private static void noSuchWhat(Check check) {
        check.sentence("Promise 20", "NONE.");
        Probe x = Probe.ofEachKind(check).due(GrindWorks.NONE, "count", 4).due(GrindWorks.NONE, "count", -1);
        for (int strange : Works.STRANGE) {
            x.due(GrindWorks.NONE, "count", strange);
        }
    }

    private static void lookingChangesNothing(Check check) {
        check.sentence("Promise 20", "NONE.");
        new Refused(check, Script.busyWorks()).due(9, "count", 0).due(13, "count", 1).due(4, "count", 2).due(0, "count", 3)
            .due(GrindWorks.NONE, "count", 4).due(GrindWorks.NONE, "count", -1);
    }
}
