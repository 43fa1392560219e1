/** Promise 10: the first and the last cell and UNIT that can be looked at. */
public final class Edges10HoldTest {
    public static void main(String[] args) {
        Check check = new Check();
        cells(check);
        nothingYet(check);
        ofAFeed(check);
        noSuchUnit(check);
        noSuchCell(check);
        lookingChangesNothing(check);
        check.end();
    }

    private static void cells(Check check) {
        check.sentence("Promise 10", "A cell of a UNIT's HOLD.");
        for (int kind = 1; kind < 8; kind++) {
            Probe x = Probe.feeding(check, kind);
            for (int cell = 0; cell < 8; cell++) {
                x.does("rate", 0, cell, 1000 - cell);
            }
            x.does("run", 1);
            for (int cell = 0; cell < 8; cell++) {
                x.due(1000 - cell, "hold", 1, cell);
            }
            // What is in SLOTS and LOTS is no more in the HOLD.
            x.does("turn", 0, 0).does("run", 1).due(kind == Works.END ? 1000 : 0, "hold", 1, 0);
            x.due(kind == Works.END ? 993 : 0, "hold", 1, 7);
        }
    }

    private static void nothingYet(Check check) {
        check.sentence("Promise 10", "UNIT's HOLD");
        Probe x = Probe.ofTen(check, Works.TANK);
        for (int unit = 0; unit < 10; unit++) {
            x.due(0, "hold", unit, 0).due(0, "hold", unit, 7);
        }
    }

    private static void ofAFeed(Check check) {
        check.sentence("Promise 10", "of a UNIT's HOLD.");
        Probe x = Probe.feeding(check, Works.END).does("rate", 0, 0, 9).due(0, "hold", 0, 0).does("run", 2).due(0, "hold", 0, 0);
        x.does("lead", 0, 0, -1).does("run", 2).due(0, "hold", 0, 0);
    }

    private static void noSuchUnit(Check check) {
        check.sentence("Promise 10", "NONE.");
        Probe x = new Probe(check);
        for (int unit = 0; unit < 10; unit++) {
            x.due(GrindWorks.NONE, "hold", unit, 0).does("unit", Works.JOIN).due(0, "hold", unit, 0);
        }
        x.due(GrindWorks.NONE, "hold", 10, 0).due(GrindWorks.NONE, "hold", -1, 0);
    }

    private static void noSuchCell(Check check) {
        check.sentence("Promise 10", "A cell of a UNIT's HOLD. NONE.");
        Probe x = Probe.ofEachKind(check);
        for (int unit = 0; unit < 8; unit++) {
            x.due(GrindWorks.NONE, "hold", unit, 8).due(GrindWorks.NONE, "hold", unit, -1);
            for (int strange : Works.STRANGE) {
                x.due(GrindWorks.NONE, "hold", unit, strange);
            }
        }
    }

    private static void lookingChangesNothing(Check check) {
        check.sentence("Promise 10", "NONE.");
        long held = Script.busyWorks().then("hold", 2, 0).answer();
        new Refused(check, Script.busyWorks()).due(held, "hold", 2, 0).due(GrindWorks.NONE, "hold", 9, 0)
            .due(GrindWorks.NONE, "hold", 2, 8).due(GrindWorks.NONE, "hold", 2, -1);
    }
}
