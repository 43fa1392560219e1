/** Promise 14: what is led back when nothing came, from the first and the last UNIT, and where there is none such. */
public final class Edges14LedBackTest {
    public static void main(String[] args) {
        Check check = new Check();
        nothingCame(check);
        howMuch(check);
        firstAndLastUnit(check);
        itIsNoEnd(check);
        noneSuch(check);
        lookingChangesNothing(check);
        check.end();
    }

    private static void nothingCame(Check check) {
        check.sentence("Promise 14", "LED BACK: how much of a STUFF and SIZE a UNIT gave to an END.");
        Probe x = Probe.ofEachKind(check).does("rate", 0, 0, 5).does("lead", 0, 0, 1).does("run", 9);
        for (int unit = 0; unit < 8; unit++) {
            x.due(0, "ledBack", 7, unit, 0, 0).due(0, "ledBack", 7, unit, 3, 1);
        }
    }

    private static void howMuch(Check check) {
        check.sentence("Promise 14", "how much of a STUFF and SIZE a UNIT gave to an END");
        Probe x = Probe.feeding(check, Works.JOIN);
        for (int cell = 0; cell < 8; cell++) {
            x.does("rate", 0, cell, 1000 - cell);
        }
        x.does("run", 4).does("lead", 0, 0, 2).does("run", 1);
        // The JOIN gave four times, the FEED once: the END tells them apart.
        for (int cell = 0; cell < 8; cell++) {
            x.due(4 * (1000 - cell), "ledBack", 2, 1, cell / 2, cell % 2);
            x.due(1000 - cell, "ledBack", 2, 0, cell / 2, cell % 2).due(5 * (1000 - cell), "hold", 2, cell);
            x.due(0, "ledBack", 2, 2, cell / 2, cell % 2);
        }
    }

    private static void firstAndLastUnit(Check check) {
        check.sentence("Promise 14", "a UNIT gave to an END");
        // END 0 from FEED 9, and END 8 from FEED 1.
        Probe x = new Probe(check).does("unit", Works.END).does("unit", Works.FEED);
        for (int i = 2; i < 9; i++) {
            x.does("unit", Works.END);
        }
        x.does("unit", Works.FEED).does("lead", 9, 0, 0).does("lead", 1, 0, 8).does("rate", 9, 7, 4).does("rate", 1, 0, 3);
        x.does("run", 2).due(8, "ledBack", 0, 9, 3, 1).due(6, "ledBack", 8, 1, 0, 0).due(0, "ledBack", 0, 1, 3, 1);
        x.due(0, "ledBack", 8, 9, 0, 0).due(0, "ledBack", 2, 9, 3, 1).due(GrindWorks.NO, "ledBack", 0, 10, 3, 1);
        x.due(GrindWorks.NO, "ledBack", 10, 9, 3, 1);
        // An END that is made late, and a UNIT that is.
        Probe y = Probe.feeding(check, Works.JOIN).does("rate", 0, 0, 3).does("run", 3).due(GrindWorks.NO, "ledBack", 3, 0, 0, 0);
        y.does("unit", Works.END).due(0, "ledBack", 3, 0, 0, 0).does("lead", 0, 0, 3).does("run", 1);
        y.due(3, "ledBack", 3, 0, 0, 0).due(GrindWorks.NO, "ledBack", 3, 4, 0, 0).does("unit", Works.FEED);
        y.due(0, "ledBack", 3, 4, 0, 0).does("lead", 4, 0, 3).does("rate", 4, 1, 2).does("run", 1).due(2, "ledBack", 3, 4, 0, 1);
    }

    private static void itIsNoEnd(Check check) {
        check.sentence("Promise 14", "it is no END.");
        for (int kind = 1; kind < 7; kind++) {
            Probe x = Probe.feeding(check, kind).does("rate", 0, 0, 4).does("run", 3);
            x.due(GrindWorks.NO, "ledBack", 1, 0, 0, 0).due(GrindWorks.NO, "ledBack", 0, 0, 0, 0);
            x.due(0, "ledBack", 2, 0, 0, 0);
        }
    }

    private static void noneSuch(Check check) {
        check.sentence("Promise 14", "NO: none such");
        Probe x = Probe.ofEachKind(check).does("rate", 0, 6, 4).does("rate", 0, 1, 5).does("lead", 0, 0, 7).does("run", 1);
        x.due(4, "ledBack", 7, 0, 3, 0).due(GrindWorks.NO, "ledBack", 7, 0, 4, 0).due(GrindWorks.NO, "ledBack", 7, 0, -1, 0);
        x.due(5, "ledBack", 7, 0, 0, 1).due(GrindWorks.NO, "ledBack", 7, 0, 0, 2).due(GrindWorks.NO, "ledBack", 7, 0, 0, -1);
        x.due(GrindWorks.NO, "ledBack", 8, 0, 0, 1).due(GrindWorks.NO, "ledBack", -1, 0, 0, 1);
        x.due(GrindWorks.NO, "ledBack", 7, 8, 0, 1).due(GrindWorks.NO, "ledBack", 7, -1, 0, 1);
        // 2 SIZE + STUFF would be cell 6 or 1, where something came; there is no such SIZE or STUFF all the same.
        x.due(GrindWorks.NO, "ledBack", 7, 0, 2, 2).due(GrindWorks.NO, "ledBack", 7, 0, 4, -2);
        x.due(GrindWorks.NO, "ledBack", 7, 0, -1, 3).due(GrindWorks.NO, "ledBack", 7, 0, 1, -1);
        for (int strange : Works.STRANGE) {
            x.due(GrindWorks.NO, "ledBack", strange, 0, 0, 1).due(GrindWorks.NO, "ledBack", 7, strange, 0, 1);
            x.due(GrindWorks.NO, "ledBack", 7, 0, strange, 1).due(GrindWorks.NO, "ledBack", 7, 0, 0, strange);
        }
    }

    private static void lookingChangesNothing(Check check) {
        check.sentence("Promise 14", "NO: none such, it is no END.");
        new Refused(check, Script.busyWorks()).due(Script.busyWorks().then("ledBack", 7, 6, 0, 0).answer(), "ledBack", 7, 6, 0, 0)
            .due(GrindWorks.NO, "ledBack", 9, 0, 0, 0).due(GrindWorks.NO, "ledBack", 6, 0, 0, 0)
            .due(GrindWorks.NO, "ledBack", 7, 9, 0, 0).due(GrindWorks.NO, "ledBack", 7, 0, 4, 0)
            .due(GrindWorks.NO, "ledBack", 7, 0, 0, 2);
    }
}
