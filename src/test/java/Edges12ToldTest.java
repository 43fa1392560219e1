/** Promise 12: the first and the last k of each KIND, and those of which nothing is told. */
public final class Edges12ToldTest {
    private static final int[] NUMBERS = {8, 0, 16, 4, 2, 1, 1, 0};

    public static void main(String[] args) {
        Check check = new Check();
        atFirst(check);
        greatest(check);
        noSuchUnit(check);
        noSuchK(check);
        anotherKind(check);
        lookingChangesNothing(check);
        check.end();
    }

    private static void atFirst(Check check) {
        check.sentence("Promise 12", "What was told of it: of a FEED the cell's RATE, of a MILL k = 4 i + j: tenths of SIZE i"
            + " to j, of a SCREEN, FLOAT the SHARE, of a TANK, PILE (k 0) TIME, MOST.");
        Probe x = Probe.ofEachKind(check);
        for (int k = 0; k < 8; k++) {
            x.due(0, "told", 0, k);
        }
        for (int k = 0; k < 16; k++) {
            x.due(k % 5 == 0 ? 10 : 0, "told", 2, k);
        }
        for (int k = 0; k < 4; k++) {
            x.due(5, "told", 3, k);
        }
        x.due(5, "told", 4, 0).due(5, "told", 4, 1).due(1, "told", 5, 0).due(100, "told", 6, 0);
    }

    private static void greatest(Check check) {
        check.sentence("Promise 12", "What was told of it");
        Probe x = Probe.ofEachKind(check);
        x.does("rate", 0, 0, 1000).does("rate", 0, 7, 999).does("table", 2, 0, 0, 0, 10).does("table", 2, 2, 10, 0, 0);
        x.does("set", 3, 0, 10).does("set", 3, 3, 0).does("set", 4, 0, 0).does("set", 4, 1, 10).does("set", 5, 0, 6);
        x.does("set", 6, 0, 5000).does("run", 60);
        x.due(1000, "told", 0, 0).due(999, "told", 0, 7).due(0, "told", 2, 0).due(10, "told", 2, 3).due(0, "told", 2, 10);
        x.due(10, "told", 2, 11).due(10, "told", 2, 15).due(10, "told", 3, 0).due(0, "told", 3, 3).due(0, "told", 4, 0);
        x.due(10, "told", 4, 1).due(6, "told", 5, 0).due(5000, "told", 6, 0);
        // A RATE is told of a FEED that is off, too.
        x.does("turn", 0, 0).due(1000, "told", 0, 0);
    }

    private static void noSuchUnit(Check check) {
        check.sentence("Promise 12", "NONE");
        Probe x = new Probe(check);
        for (int unit = 0; unit < 10; unit++) {
            x.due(GrindWorks.NONE, "told", unit, 0).does("unit", Works.PILE).due(100, "told", unit, 0);
        }
        x.due(GrindWorks.NONE, "told", 10, 0).due(GrindWorks.NONE, "told", -1, 0);
    }

    private static void noSuchK(Check check) {
        check.sentence("Promise 12", "NONE: no such k");
        Probe x = Probe.ofEachKind(check);
        for (int unit = 0; unit < 8; unit++) {
            x.due(GrindWorks.NONE, "told", unit, NUMBERS[unit]).due(GrindWorks.NONE, "told", unit, -1);
            x.due(GrindWorks.NONE, "told", unit, 16);
            for (int strange : Works.STRANGE) {
                x.due(GrindWorks.NONE, "told", unit, strange);
            }
        }
    }

    private static void anotherKind(Check check) {
        check.sentence("Promise 12", "another KIND.");
        Probe x = Probe.ofEachKind(check);
        for (int k = 0; k < 16; k++) {
            x.due(GrindWorks.NONE, "told", Works.JOIN, k).due(GrindWorks.NONE, "told", Works.END, k);
        }
    }

    private static void lookingChangesNothing(Check check) {
        check.sentence("Promise 12", "NONE: no such k, another KIND.");
        new Refused(check, Script.busyWorks()).due(37, "told", 0, 0).due(4, "told", 2, 0).due(GrindWorks.NONE, "told", 0, 8)
            .due(GrindWorks.NONE, "told", 2, 16).due(GrindWorks.NONE, "told", 1, 0).due(GrindWorks.NONE, "told", 9, 0);
    }
}
