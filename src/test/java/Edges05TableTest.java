/** Promise 5: the tenths that a TABLE takes, to the last one, and those that it refuses. */
public final class Edges05TableTest {
    public static void main(String[] args) {
        Check check = new Check();
        theRestToItself(check);
        sizesBehindIt(check);
        noSuchUnitOrSize(check);
        noMill(check);
        belowNothing(check);
        togetherAboveTen(check);
        noSizeThere(check);
        order(check);
        refusedChangesNothing(check);
        check.end();
    }

    /** What a TABLE's row of SIZE i says then. */
    private static void row(Probe x, int i, int... want) {
        for (int j = 0; j < 4; j++) {
            x.due(want[j], "told", Works.MILL, 4 * i + j);
        }
    }

    private static void theRestToItself(Check check) {
        check.sentence("Promise 5", "TABLE of a MILL: of SIZE i tenths to the SIZES behind it, the rest to itself");
        Probe x = Probe.ofEachKind(check).due(0, "table", 2, 0, 0, 0, 0);
        row(x, 0, 10, 0, 0, 0);
        x.due(0, "table", 2, 0, 1, 0, 0);
        row(x, 0, 9, 1, 0, 0);
        x.due(0, "table", 2, 0, 3, 3, 3);
        row(x, 0, 1, 3, 3, 3);
        x.due(0, "table", 2, 0, 4, 3, 3);
        row(x, 0, 0, 4, 3, 3);
        // In place of what was told before, not on top of it.
        x.due(0, "table", 2, 0, 0, 0, 1);
        row(x, 0, 9, 0, 0, 1);
    }

    private static void sizesBehindIt(Check check) {
        check.sentence("Promise 5", "(to1 to SIZE i + 1, and so on; 0 where there is none): 0.");
        Probe x = Probe.ofEachKind(check);
        x.due(0, "table", 2, 0, 1, 2, 3).due(0, "table", 2, 1, 4, 5, 0).due(0, "table", 2, 2, 7, 0, 0);
        x.due(0, "table", 2, 3, 0, 0, 0);
        row(x, 0, 4, 1, 2, 3);
        row(x, 1, 0, 1, 4, 5);
        row(x, 2, 0, 0, 3, 7);
        row(x, 3, 0, 0, 0, 10);
    }

    private static void noSuchUnitOrSize(Check check) {
        check.sentence("Promise 5", "NONE;");
        Probe x = Probe.ofTen(check, Works.MILL).due(0, "table", 0, 0, 1, 1, 1).due(0, "table", 9, 3, 0, 0, 0);
        x.due(GrindWorks.NONE, "table", 10, 0, 0, 0, 0).due(GrindWorks.NONE, "table", -1, 0, 0, 0, 0);
        x.due(GrindWorks.NONE, "table", 9, 4, 0, 0, 0).due(GrindWorks.NONE, "table", 9, -1, 0, 0, 0);
        new Probe(check).due(GrindWorks.NONE, "table", 0, 0, 0, 0, 0);
        for (int strange : Works.STRANGE) {
            x.due(GrindWorks.NONE, "table", strange, 0, 0, 0, 0).due(GrindWorks.NONE, "table", 0, strange, 0, 0, 0);
        }
    }

    private static void noMill(Check check) {
        check.sentence("Promise 5", "STATE: no MILL");
        Probe x = Probe.ofEachKind(check);
        for (int unit = 0; unit < 8; unit++) {
            x.due(unit == Works.MILL ? 0 : GrindWorks.STATE, "table", unit, 0, 1, 1, 1);
            x.due(unit == Works.MILL ? 0 : GrindWorks.STATE, "table", unit, 3, 0, 0, 0);
        }
    }

    private static void belowNothing(Check check) {
        check.sentence("Promise 5", "BAD: below 0");
        Probe x = Probe.ofEachKind(check).does("table", 2, 0, 1, 2, 3);
        x.due(GrindWorks.BAD, "table", 2, 0, -1, 0, 0).due(GrindWorks.BAD, "table", 2, 0, 0, -1, 0);
        x.due(GrindWorks.BAD, "table", 2, 0, 0, 0, -1).due(GrindWorks.BAD, "table", 2, 0, -1, 5, 5);
        x.due(GrindWorks.BAD, "table", 2, 0, 11, -1, 0).due(GrindWorks.BAD, "table", 2, 0, 5, 6, -1);
        x.due(GrindWorks.BAD, "table", 2, 0, Integer.MIN_VALUE, 0, 0);
        x.due(GrindWorks.BAD, "table", 2, 0, Integer.MIN_VALUE, Integer.MIN_VALUE, 0);
        row(x, 0, 4, 1, 2, 3);
    }

    private static void togetherAboveTen(Check check) {
        check.sentence("Promise 5", "together above 10");
        Probe x = Probe.ofEachKind(check).does("table", 2, 0, 1, 2, 3);
        x.due(GrindWorks.BAD, "table", 2, 0, 11, 0, 0).due(GrindWorks.BAD, "table", 2, 0, 0, 11, 0);
        x.due(GrindWorks.BAD, "table", 2, 0, 0, 0, 11).due(GrindWorks.BAD, "table", 2, 0, 10, 1, 0);
        x.due(GrindWorks.BAD, "table", 2, 0, 10, 0, 1).due(GrindWorks.BAD, "table", 2, 0, 4, 4, 3);
        x.due(GrindWorks.BAD, "table", 2, 1, 10, 1, 0).due(GrindWorks.BAD, "table", 2, 2, 11, 0, 0);
        // Sums that wrap around an int to 10 or less are above 10 still.
        int most = Integer.MAX_VALUE;
        x.due(GrindWorks.BAD, "table", 2, 0, most, most, 2).due(GrindWorks.BAD, "table", 2, 0, most, 1, 0);
        x.due(GrindWorks.BAD, "table", 2, 0, most, most, most);
        row(x, 0, 4, 1, 2, 3);
        x.due(0, "table", 2, 0, 10, 0, 0).due(0, "table", 2, 0, 0, 10, 0).due(0, "table", 2, 0, 0, 0, 10);
        x.due(0, "table", 2, 0, 4, 4, 2).due(0, "table", 2, 1, 9, 1, 0).due(0, "table", 2, 2, 10, 0, 0);
    }

    private static void noSizeThere(Check check) {
        check.sentence("Promise 5", "not 0 where there is no SIZE.");
        Probe x = Probe.ofEachKind(check).does("table", 2, 1, 1, 2, 0).does("table", 2, 2, 1, 0, 0);
        x.due(GrindWorks.BAD, "table", 2, 1, 0, 0, 1).due(GrindWorks.BAD, "table", 2, 2, 0, 1, 0);
        x.due(GrindWorks.BAD, "table", 2, 2, 0, 0, 1).due(GrindWorks.BAD, "table", 2, 3, 1, 0, 0);
        x.due(GrindWorks.BAD, "table", 2, 3, 0, 1, 0).due(GrindWorks.BAD, "table", 2, 3, 0, 0, 1);
        x.due(GrindWorks.BAD, "table", 2, 1, 0, 0, -1).due(GrindWorks.BAD, "table", 2, 3, -1, 0, 0);
        row(x, 1, 0, 7, 1, 2);
        row(x, 2, 0, 0, 9, 1);
        row(x, 3, 0, 0, 0, 10);
    }

    private static void order(Check check) {
        check.sentence("Promise 5", "NONE; STATE: no MILL; BAD: below 0, together above 10, not 0 where there is no SIZE.");
        Probe x = Probe.ofEachKind(check).due(GrindWorks.NONE, "table", 8, 0, 11, 0, 0).due(GrindWorks.NONE, "table", 2, 4, 1, 0, 0);
        for (int unit = 0; unit < 8; unit++) {
            x.due(GrindWorks.NONE, "table", unit, 4, 0, 0, 0).due(GrindWorks.NONE, "table", unit, -1, -1, 0, 0);
            x.due(unit == 2 ? GrindWorks.BAD : GrindWorks.STATE, "table", unit, 0, 11, 0, 0);
            x.due(unit == 2 ? GrindWorks.BAD : GrindWorks.STATE, "table", unit, 3, 1, 0, 0);
        }
    }

    private static void refusedChangesNothing(Check check) {
        check.sentence("Promise 5", "NONE; STATE: no MILL; BAD: below 0, together above 10, not 0 where there is no SIZE.");
        Refused refused = new Refused(check, Script.busyWorks());
        refused.due(GrindWorks.BAD, "table", 2, 0, -1, 0, 0).due(GrindWorks.BAD, "table", 2, 0, 1, 1, -1);
        refused.due(GrindWorks.BAD, "table", 2, 0, 4, 4, 3).due(GrindWorks.BAD, "table", 2, 1, 1, 1, 1);
        refused.due(GrindWorks.BAD, "table", 2, 3, 1, 0, 0).due(GrindWorks.BAD, "table", 2, 2, 1, 1, 0);
        refused.due(GrindWorks.NONE, "table", 2, 4, 0, 0, 0).due(GrindWorks.NONE, "table", 9, 0, 0, 0, 0);
        refused.due(GrindWorks.STATE, "table", 0, 0, 1, 1, 1).due(GrindWorks.STATE, "table", 3, 0, 1, 1, 1);
    }
}
