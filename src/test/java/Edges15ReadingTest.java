/** Promise 15: the first and the last number and DOUBT of a READING, and what is refused, in its order. */
public final class Edges15ReadingTest {
    private static final int[] ONE_PORT = {Works.JOIN, Works.MILL, Works.TANK, Works.PILE};
    private static final int[] TWO_PORTS = {Works.SCREEN, Works.FLOAT};

    public static void main(String[] args) {
        Check check = new Check();
        atFirst(check);
        eachWhat(check);
        noSuchUnit(check);
        noSuchWhat(check);
        aFeedAnEnd(check);
        noSecondPort(check);
        bad(check);
        order(check);
        refusedChangesNothing(check);
        check.end();
    }

    private static void atFirst(Check check) {
        check.sentence("Promise 15", "(At first each is 0, its DOUBT 1.)");
        Probe x = Probe.ofEachKind(check);
        for (int unit = 1; unit < 7; unit++) {
            x.due(0, "close", unit, 0, 0).due(1, "close", unit, 0, 1).due(0, "close", unit, 1, 0).due(1, "close", unit, 1, 1);
        }
        for (int unit : ONE_PORT) {
            // 3 against 0 with DOUBTS 2 and 1: 1 for what comes in, 1 for PORT 0.
            x.due(0, "reading", unit, 0, 3, 2).due(1, "close", unit, 0, 0).due(1, "close", unit, 1, 0);
        }
        for (int unit : TWO_PORTS) {
            x.due(0, "reading", unit, 0, 5, 3).due(2, "close", unit, 0, 0).due(1, "close", unit, 1, 0).due(1, "close", unit, 2, 0);
        }
        x.due(0, "reading", 4, 0, 0, 1).due(0, "reading", 4, 1, 9, 1).due(3, "close", 4, 0, 0).due(-3, "close", 4, 2, 0);
    }

    private static void eachWhat(Check check) {
        check.sentence("Promise 15", "A READING: what 0 what comes in, 1 PORT 0, 2 PORT 1: 0.");
        Probe x = Probe.ofEachKind(check);
        for (int unit : TWO_PORTS) {
            x.due(0, "reading", unit, 0, 70, 1).due(0, "reading", unit, 1, 60, 1).due(0, "reading", unit, 2, 10, 1);
            x.due(70, "close", unit, 0, 0).due(60, "close", unit, 1, 0).due(10, "close", unit, 2, 0);
            // In place of the one before.
            x.due(0, "reading", unit, 2, 25, 3).due(73, "close", unit, 0, 0).due(57, "close", unit, 1, 0).due(16, "close", unit, 2, 0);
        }
        for (int unit : ONE_PORT) {
            x.due(0, "reading", unit, 0, 70, 1).due(0, "reading", unit, 1, 60, 1).due(65, "close", unit, 0, 0);
            x.due(0, "reading", unit, 1, 60, 4).due(68, "close", unit, 0, 0).due(68, "close", unit, 1, 0);
        }
    }

    private static void noSuchUnit(Check check) {
        check.sentence("Promise 15", "NONE: no such UNIT");
        Probe x = new Probe(check);
        for (int unit = 0; unit < 10; unit++) {
            x.due(GrindWorks.NONE, "reading", unit, 0, 5, 1).does("unit", Works.PILE).due(0, "reading", unit, 0, 5, 1);
        }
        x.due(GrindWorks.NONE, "reading", 10, 0, 5, 1).due(GrindWorks.NONE, "reading", -1, 0, 5, 1);
    }

    private static void noSuchWhat(Check check) {
        check.sentence("Promise 15", "what not 0 .. 2");
        Probe x = Probe.ofEachKind(check);
        for (int unit = 0; unit < 8; unit++) {
            x.due(GrindWorks.NONE, "reading", unit, 3, 5, 1).due(GrindWorks.NONE, "reading", unit, -1, 5, 1);
            for (int strange : Works.STRANGE) {
                x.due(GrindWorks.NONE, "reading", unit, strange, 5, 1);
            }
        }
    }

    private static void aFeedAnEnd(Check check) {
        check.sentence("Promise 15", "STATE: a FEED, an END");
        Probe x = Probe.ofEachKind(check);
        for (int what = 0; what < 3; what++) {
            x.due(GrindWorks.STATE, "reading", Works.FEED, what, 5, 1).due(GrindWorks.STATE, "reading", Works.END, what, 5, 1);
        }
    }

    private static void noSecondPort(Check check) {
        check.sentence("Promise 15", "NONE: PORT 1 of a UNIT that has one alone");
        Probe x = Probe.ofEachKind(check);
        for (int unit : ONE_PORT) {
            x.due(0, "reading", unit, 1, 6, 1).due(GrindWorks.NONE, "reading", unit, 2, 5, 1).due(3, "close", unit, 0, 0);
        }
        for (int unit : TWO_PORTS) {
            x.due(0, "reading", unit, 2, 6, 1).due(2, "close", unit, 0, 0);
        }
    }

    private static void bad(Check check) {
        check.sentence("Promise 15", "BAD.");
        Probe x = Probe.ofEachKind(check);
        for (int what = 0; what < 3; what++) {
            x.due(0, "reading", 3, what, 100000, 100).due(0, "reading", 3, what, 0, 1);
            x.due(GrindWorks.BAD, "reading", 3, what, -1, 1).due(GrindWorks.BAD, "reading", 3, what, 100001, 1);
            x.due(GrindWorks.BAD, "reading", 3, what, 5, 0).due(GrindWorks.BAD, "reading", 3, what, 5, 101);
            x.due(GrindWorks.BAD, "reading", 3, what, 5, -1).due(0, "close", 3, what, 0).due(1, "close", 3, what, 1);
            for (int strange : Works.STRANGE) {
                x.due(GrindWorks.BAD, "reading", 3, what, strange, 1).due(GrindWorks.BAD, "reading", 3, what, 5, strange);
            }
        }
        // The refused DOUBT and number were not kept: 0 and 1 still stand.
        x.due(0, "reading", 3, 0, 3, 1).due(2, "close", 3, 0, 0).due(1, "close", 3, 1, 0).due(1, "close", 3, 2, 0);
    }

    private static void order(Check check) {
        check.sentence("Promise 15", "In this order: NONE: no such UNIT, what not 0 .. 2; STATE: a FEED, an END; NONE: PORT 1"
            + " of a UNIT that has one alone; BAD.");
        Probe x = Probe.ofEachKind(check).due(GrindWorks.NONE, "reading", 8, 3, -1, 0).due(GrindWorks.NONE, "reading", 8, 0, -1, 0);
        for (int unit = 0; unit < 8; unit += 7) {
            x.due(GrindWorks.NONE, "reading", unit, 3, -1, 0).due(GrindWorks.NONE, "reading", unit, -1, 5, 1);
            x.due(GrindWorks.STATE, "reading", unit, 2, -1, 0).due(GrindWorks.STATE, "reading", unit, 0, 100001, 101);
        }
        for (int unit : ONE_PORT) {
            x.due(GrindWorks.NONE, "reading", unit, 2, -1, 1).due(GrindWorks.NONE, "reading", unit, 2, 5, 0);
            x.due(GrindWorks.BAD, "reading", unit, 1, -1, 1).due(GrindWorks.BAD, "reading", unit, 1, 5, 0);
        }
    }

    private static void refusedChangesNothing(Check check) {
        check.sentence("Promise 15", "NONE: no such UNIT, what not 0 .. 2; STATE: a FEED, an END; NONE: PORT 1 of a UNIT that"
            + " has one alone; BAD.");
        Refused refused = new Refused(check, Script.busyWorks());
        for (int what = 0; what < 3; what++) {
            refused.due(GrindWorks.BAD, "reading", 3, what, 100001, 50).due(GrindWorks.BAD, "reading", 3, what, 50, 101);
            refused.due(GrindWorks.BAD, "reading", 3, what, -1, 50).due(GrindWorks.BAD, "reading", 3, what, 50, 0);
        }
        refused.due(GrindWorks.NONE, "reading", 3, 3, 50, 50).due(GrindWorks.NONE, "reading", 2, 2, 50, 50);
        refused.due(GrindWorks.NONE, "reading", 9, 0, 50, 50).due(GrindWorks.STATE, "reading", 0, 0, 50, 50);
        refused.due(GrindWorks.STATE, "reading", 7, 1, 50, 50);
    }
}
