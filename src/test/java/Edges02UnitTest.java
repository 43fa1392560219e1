/** Promise 2: the first and the last UNIT and KIND that are taken, and those that are not. */
public final class Edges02UnitTest {
    public static void main(String[] args) {
        Check check = new Check();
        aUnitMore(check);
        kinds(check);
        full(check);
        noneComesFirst(check);
        refusedChangesNothing(check);
        check.end();
    }

    private static void aUnitMore(Check check) {
        check.sentence("Promise 2", "A UNIT more: its number.");
        Probe x = new Probe(check);
        for (int i = 0; i < 10; i++) {
            x.due(GrindWorks.NONE, "hold", i, 0).due(i, "unit", 7 - i % 8).due(0, "hold", i, 0).due(i + 1, "count", 0);
        }
        // Those that stand already stay as they are.
        for (int i = 0; i < 10; i++) {
            x.due(7 - i % 8, "about", i, 0);
        }
    }

    private static void kinds(Check check) {
        check.sentence("Promise 2", "NONE: kind");
        Probe x = new Probe(check).due(GrindWorks.NONE, "unit", -1).due(GrindWorks.NONE, "unit", 8).due(0, "count", 0);
        x.due(0, "unit", 0).due(1, "unit", 7).due(0, "about", 0, 0).due(7, "about", 1, 0);
        for (int strange : Works.STRANGE) {
            x.due(GrindWorks.NONE, "unit", strange);
        }
        x.due(2, "count", 0);
    }

    private static void full(Check check) {
        check.sentence("Promise 2", "FULL.");
        for (int kind = 0; kind < 8; kind++) {
            Probe x = new Probe(check);
            for (int i = 0; i < 9; i++) {
                x.does("unit", Works.JOIN);
            }
            x.due(9, "unit", kind).due(GrindWorks.FULL, "unit", kind).due(GrindWorks.FULL, "unit", kind);
            x.due(10, "count", 0).due(kind, "about", 9, 0).due(GrindWorks.NONE, "about", 10, 0);
        }
    }

    private static void noneComesFirst(Check check) {
        check.sentence("Promise 2", "NONE: kind; FULL.");
        Probe.ofTen(check, Works.END).due(GrindWorks.NONE, "unit", 8).due(GrindWorks.NONE, "unit", -1)
            .due(GrindWorks.NONE, "unit", Integer.MAX_VALUE).due(GrindWorks.FULL, "unit", 7).due(10, "count", 0);
    }

    private static void refusedChangesNothing(Check check) {
        check.sentence("Promise 2", "NONE: kind; FULL.");
        new Refused(check, Script.busyWorks()).due(GrindWorks.NONE, "unit", 8).due(GrindWorks.NONE, "unit", -1);
        Refused full = new Refused(check, Script.busyWorks().then("unit", Works.PILE)).due(GrindWorks.NONE, "unit", 8);
        for (int kind = 0; kind < 8; kind++) {
            full.due(GrindWorks.FULL, "unit", kind);
        }
    }
}
