/** Promise 13: the sums when there is nothing, by each STUFF, and the sums that there are not. */
public final class Edges13SumTest {
    public static void main(String[] args) {
        Check check = new Check();
        nothingThere(check);
        eachWhat(check);
        eachStuff(check);
        noSuchStuff(check);
        noSuchWhat(check);
        lookingChangesNothing(check);
        check.end();
    }

    private static void due(Probe x, int stuff, long... want) {
        for (int what = 0; what < 4; what++) {
            x.due(want[what], "sum", stuff, what);
        }
    }

    private static void nothingThere(Check check) {
        check.sentence("Promise 13", "Of a STUFF what 0 IN, 1 OUT, 2 LOST, 3 WITHIN. NO.");
        due(new Probe(check), 0, 0, 0, 0, 0);
        due(new Probe(check).does("run", 60), 1, 0, 0, 0, 0);
        due(Probe.ofEachKind(check).does("run", 60), 0, 0, 0, 0, 0);
    }

    private static void eachWhat(Check check) {
        check.sentence("Promise 13", "what 0 IN, 1 OUT, 2 LOST, 3 WITHIN");
        Probe out = Probe.feeding(check, Works.END).does("rate", 0, 0, 1000).does("rate", 0, 6, 1).does("run", 2);
        due(out, 0, 2002, 2002, 0, 0);
        Probe lost = Probe.ofEachKind(check).does("rate", 0, 0, 1000).does("rate", 0, 6, 1).does("run", 2);
        due(lost, 0, 2002, 0, 2002, 0);
        for (int kind = 1; kind < 7; kind++) {
            Probe within = Probe.feeding(check, kind).does("rate", 0, 0, 40).does("rate", 0, 6, 2).does("run", 1);
            due(within, 0, 42, 0, 0, 42);
            // SLOTS and LOTS are within, too, when nothing is in the HOLD any more.
            within.does("set", 1, 0, kind == Works.TANK ? 6 : 0).does("turn", 0, 0).does("run", 1);
            boolean keeps = kind == Works.TANK || kind == Works.PILE;
            due(within, 0, 42, keeps ? 0 : 42, 0, keeps ? 42 : 0);
        }
    }

    private static void eachStuff(Check check) {
        check.sentence("Promise 13", "Of a STUFF");
        for (int cell = 0; cell < 8; cell++) {
            Probe x = Probe.feeding(check, Works.JOIN).does("rate", 0, cell, 7).does("run", 3);
            due(x, cell % 2, 21, 14, 0, 7);
            due(x, 1 - cell % 2, 0, 0, 0, 0);
            x.does("lead", 0, 0, -1).does("run", 1);
            due(x, cell % 2, 28, 21, 7, 0);
            due(x, 1 - cell % 2, 0, 0, 0, 0);
        }
    }

    private static void noSuchStuff(Check check) {
        check.sentence("Promise 13", "NO.");
        Probe x = Probe.feeding(check, Works.END).does("rate", 0, 0, 7).does("run", 3);
        for (int what = 0; what < 4; what++) {
            x.due(GrindWorks.NO, "sum", 2, what).due(GrindWorks.NO, "sum", -1, what);
            for (int strange : Works.STRANGE) {
                x.due(GrindWorks.NO, "sum", strange, what);
            }
        }
    }

    private static void noSuchWhat(Check check) {
        check.sentence("Promise 13", "3 WITHIN. NO.");
        Probe x = Probe.feeding(check, Works.END).does("rate", 0, 0, 7).does("run", 3);
        for (int stuff = 0; stuff < 2; stuff++) {
            x.due(GrindWorks.NO, "sum", stuff, 4).due(GrindWorks.NO, "sum", stuff, -1);
            for (int strange : Works.STRANGE) {
                x.due(GrindWorks.NO, "sum", stuff, strange);
            }
        }
    }

    private static void lookingChangesNothing(Check check) {
        check.sentence("Promise 13", "NO.");
        Refused refused = new Refused(check, Script.busyWorks());
        for (int what = 0; what < 4; what++) {
            refused.due(Script.busyWorks().then("sum", 0, what).answer(), "sum", 0, what);
        }
        refused.due(GrindWorks.NO, "sum", 2, 0).due(GrindWorks.NO, "sum", -1, 0).due(GrindWorks.NO, "sum", 0, 4);
    }
}
