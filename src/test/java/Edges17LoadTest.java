/** Promise 17: the first and the last WEIGHT, GOOD part and PRICE of a LOAD, and the last LOAD. */
public final class Edges17LoadTest {
    public static void main(String[] args) {
        Check check = new Check();
        itsNumber(check);
        bad(check);
        full(check);
        badComesFirst(check);
        refusedChangesNothing(check);
        check.end();
    }

    private static void itsNumber(Check check) {
        check.sentence("Promise 17", "A LOAD more: its number.");
        Probe x = new Probe(check).due(0, "count", 2);
        for (int i = 0; i < 10; i++) {
            x.due(i, "load", 1, 50, 5).due(i + 1, "count", 2);
        }
        x.does("unload").due(0, "load", 1, 50, 5).due(1, "load", 1, 50, 5);
    }

    private static void bad(Check check) {
        check.sentence("Promise 17", "BAD;");
        Probe x = new Probe(check);
        x.due(GrindWorks.BAD, "load", 0, 50, 5).due(GrindWorks.BAD, "load", 1001, 50, 5).due(GrindWorks.BAD, "load", -1, 50, 5);
        x.due(GrindWorks.BAD, "load", 5, -1, 5).due(GrindWorks.BAD, "load", 5, 101, 5);
        x.due(GrindWorks.BAD, "load", 5, 50, -1).due(GrindWorks.BAD, "load", 5, 50, 1001);
        for (int strange : Works.STRANGE) {
            x.due(GrindWorks.BAD, "load", strange, 50, 5).due(GrindWorks.BAD, "load", 5, strange, 5);
            x.due(GrindWorks.BAD, "load", 5, 50, strange);
        }
        x.due(0, "count", 2).due(0, "load", 1, 0, 0).due(1, "load", 1000, 100, 1000).due(2, "count", 2);
    }

    private static void full(Check check) {
        check.sentence("Promise 17", "FULL.");
        Probe x = new Probe(check);
        for (int i = 0; i < 10; i++) {
            x.due(i, "load", 1000, 100, 1000);
        }
        x.due(GrindWorks.FULL, "load", 1, 0, 0).due(GrindWorks.FULL, "load", 1000, 100, 1000).due(10, "count", 2);
        x.due(GrindWorks.NONE, "blend", 1, 999, 0).due(1023, "blend", 9001, 20000, 0);
        // When all have gone there is room for ten again.
        x.due(10, "unload");
        for (int i = 0; i < 10; i++) {
            x.due(i, "load", 1, 0, 0);
        }
        x.due(GrindWorks.FULL, "load", 1, 0, 0);
    }

    private static void badComesFirst(Check check) {
        check.sentence("Promise 17", "BAD; FULL.");
        Probe x = new Probe(check);
        for (int i = 0; i < 10; i++) {
            x.does("load", 7, 7, 7);
        }
        x.due(GrindWorks.BAD, "load", 0, 7, 7).due(GrindWorks.BAD, "load", 1001, 7, 7).due(GrindWorks.BAD, "load", 7, -1, 7);
        x.due(GrindWorks.BAD, "load", 7, 101, 7).due(GrindWorks.BAD, "load", 7, 7, -1).due(GrindWorks.BAD, "load", 7, 7, 1001);
        x.due(GrindWorks.FULL, "load", 7, 7, 7);
    }

    private static void refusedChangesNothing(Check check) {
        check.sentence("Promise 17", "BAD; FULL.");
        new Refused(check, Script.busyWorks()).due(GrindWorks.BAD, "load", 0, 50, 1).due(GrindWorks.BAD, "load", 1001, 50, 1)
            .due(GrindWorks.BAD, "load", 16, 101, 1).due(GrindWorks.BAD, "load", 16, 50, 1001);
        new Refused(check, Script.busyWorks().times(6, "load", 1, 80, 2)).due(GrindWorks.FULL, "load", 1, 100, 0)
            .due(GrindWorks.FULL, "load", 16, 100, 1).due(GrindWorks.BAD, "load", 0, 100, 1);
    }
}
