/** Promise 6: the first and the last k and number of SHARE, TIME and MOST, and those that are refused. */
public final class Edges06SetTest {
    private static final int[] UNITS = {Works.SCREEN, Works.FLOAT, Works.TANK, Works.PILE};
    private static final int[] KS = {4, 2, 1, 1};
    private static final int[] LEAST = {0, 0, 1, 0};
    private static final int[] GREATEST = {10, 10, 6, 5000};
    private static final int[] AT_FIRST = {5, 5, 1, 100};

    public static void main(String[] args) {
        Check check = new Check();
        whatItWas(check);
        noSuchUnit(check);
        anotherKind(check);
        noSuchK(check);
        bad(check);
        order(check);
        refusedChangesNothing(check);
        check.end();
    }

    private static void whatItWas(Check check) {
        check.sentence("Promise 6", "SHARE of a SCREEN's SIZE, of a FLOAT's STUFF; TIME of a TANK, MOST of a PILE (k 0):"
            + " what it was.");
        Probe x = Probe.ofEachKind(check);
        for (int i = 0; i < UNITS.length; i++) {
            for (int k = 0; k < KS[i]; k++) {
                x.due(AT_FIRST[i], "set", UNITS[i], k, GREATEST[i] - k).due(GREATEST[i] - k, "told", UNITS[i], k);
            }
            for (int k = 0; k < KS[i]; k++) {
                x.due(GREATEST[i] - k, "set", UNITS[i], k, LEAST[i]).due(LEAST[i], "set", UNITS[i], k, LEAST[i] + 1);
                x.due(GrindWorks.BAD, "set", UNITS[i], k, -1).due(LEAST[i] + 1, "set", UNITS[i], k, LEAST[i]);
            }
        }
    }

    private static void noSuchUnit(Check check) {
        check.sentence("Promise 6", "NONE: no such UNIT");
        for (int kind : UNITS) {
            Probe x = new Probe(check).due(GrindWorks.NONE, "set", 0, 0, 1);
            for (int i = 0; i < 10; i++) {
                x.due(GrindWorks.NONE, "set", i, 0, 1).does("unit", kind).does("set", i, 0, 2).due(2, "set", i, 0, 1);
            }
            x.due(GrindWorks.NONE, "set", 10, 0, 1).due(GrindWorks.NONE, "set", -1, 0, 1);
        }
    }

    private static void anotherKind(Check check) {
        check.sentence("Promise 6", "STATE: another KIND");
        Probe x = Probe.ofEachKind(check);
        int[] others = {Works.FEED, Works.JOIN, Works.MILL, Works.END};
        for (int unit : others) {
            x.due(GrindWorks.STATE, "set", unit, 0, 1).due(GrindWorks.STATE, "set", unit, 0, 0);
        }
    }

    private static void noSuchK(Check check) {
        check.sentence("Promise 6", "NONE: no such k");
        Probe x = Probe.ofEachKind(check);
        for (int i = 0; i < UNITS.length; i++) {
            x.due(AT_FIRST[i], "set", UNITS[i], KS[i] - 1, 2).due(GrindWorks.NONE, "set", UNITS[i], KS[i], 3);
            x.due(GrindWorks.NONE, "set", UNITS[i], -1, 3).due(2, "told", UNITS[i], KS[i] - 1);
            for (int strange : Works.STRANGE) {
                x.due(GrindWorks.NONE, "set", UNITS[i], strange, 3);
            }
        }
    }

    private static void bad(Check check) {
        check.sentence("Promise 6", "BAD.");
        Probe x = Probe.ofEachKind(check);
        for (int i = 0; i < UNITS.length; i++) {
            for (int k = 0; k < KS[i]; k++) {
                x.due(GrindWorks.BAD, "set", UNITS[i], k, LEAST[i] - 1).due(GrindWorks.BAD, "set", UNITS[i], k, GREATEST[i] + 1);
                x.due(AT_FIRST[i], "told", UNITS[i], k).due(AT_FIRST[i], "set", UNITS[i], k, LEAST[i]);
                x.due(LEAST[i], "set", UNITS[i], k, GREATEST[i]).due(GREATEST[i], "told", UNITS[i], k);
            }
            for (int strange : Works.STRANGE) {
                x.due(GrindWorks.BAD, "set", UNITS[i], 0, strange);
            }
        }
    }

    private static void order(Check check) {
        check.sentence("Promise 6", "NONE: no such UNIT; STATE: another KIND; NONE: no such k; BAD. (In this order.)");
        Probe x = Probe.ofEachKind(check).due(GrindWorks.NONE, "set", 8, 9, -1).due(GrindWorks.NONE, "set", -1, 0, -1);
        int[] others = {Works.FEED, Works.JOIN, Works.MILL, Works.END};
        for (int unit : others) {
            x.due(GrindWorks.STATE, "set", unit, -1, 5).due(GrindWorks.STATE, "set", unit, 16, 5);
            x.due(GrindWorks.STATE, "set", unit, 0, -1).due(GrindWorks.STATE, "set", unit, 99, 99999);
        }
        for (int i = 0; i < UNITS.length; i++) {
            x.due(GrindWorks.NONE, "set", UNITS[i], KS[i], -1).due(GrindWorks.NONE, "set", UNITS[i], -1, GREATEST[i] + 1);
        }
    }

    private static void refusedChangesNothing(Check check) {
        check.sentence("Promise 6", "NONE: no such UNIT; STATE: another KIND; NONE: no such k; BAD.");
        Refused refused = new Refused(check, Script.busyWorks());
        for (int i = 0; i < UNITS.length; i++) {
            refused.due(GrindWorks.BAD, "set", UNITS[i], 0, LEAST[i] - 1).due(GrindWorks.BAD, "set", UNITS[i], 0, GREATEST[i] + 1);
            refused.due(GrindWorks.NONE, "set", UNITS[i], KS[i], 2).due(GrindWorks.NONE, "set", UNITS[i], -1, 2);
        }
        refused.due(GrindWorks.STATE, "set", 0, 0, 2).due(GrindWorks.STATE, "set", 1, 0, 2).due(GrindWorks.STATE, "set", 2, 0, 2);
        refused.due(GrindWorks.STATE, "set", 7, 0, 2).due(GrindWorks.NONE, "set", 9, 0, 2);
    }
}
