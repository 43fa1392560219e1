/** Promise 9: the least and the most MINUTES of one run and of all. */
public final class Edges09RunTest {
    public static void main(String[] args) {
        Check check = new Check();
        howManyInAll(check);
        bad(check);
        full(check);
        fullByOne(check);
        badComesFirst(check);
        refusedChangesNothing(check);
        check.end();
    }

    /** A FEED of one a MINUTE behind so many MINUTES. */
    private static Probe behind(Check check, int minutes) {
        Probe x = Probe.feeding(check, Works.END).does("rate", 0, 0, 1);
        for (int left = minutes; left > 0; left -= 60) {
            x.does("run", Math.min(left, 60));
        }
        return x.due(minutes, "count", 1).due(minutes, "hold", 1, 0);
    }

    private static void howManyInAll(Check check) {
        check.sentence("Promise 9", "n MINUTES go by: how many did in all.");
        Probe x = Probe.feeding(check, Works.END).does("rate", 0, 0, 1).due(0, "count", 1);
        x.due(1, "run", 1).due(1, "hold", 1, 0).due(61, "run", 60).due(61, "hold", 1, 0).due(63, "run", 2).due(63, "count", 1);
        // One run of n is the same as n runs of one.
        check.due("60 MINUTES at once", Script.busyWorks().then("run", 60).then("sum", 0, 3).answer(),
            Script.busyWorks().times(60, "run", 1).then("sum", 0, 3).answer());
    }

    private static void bad(Check check) {
        check.sentence("Promise 9", "BAD: n not 1 .. 60");
        Probe x = behind(check, 0).due(GrindWorks.BAD, "run", 0).due(GrindWorks.BAD, "run", 61).due(GrindWorks.BAD, "run", -1);
        for (int strange : Works.STRANGE) {
            x.due(GrindWorks.BAD, "run", strange);
        }
        x.due(0, "count", 1).due(0, "hold", 1, 0).due(1, "run", 1).due(61, "run", 60);
    }

    private static void full(Check check) {
        check.sentence("Promise 9", "FULL: more than 3000.");
        behind(check, 2940).due(3000, "run", 60).due(3000, "hold", 1, 0).due(GrindWorks.FULL, "run", 1)
            .due(GrindWorks.FULL, "run", 60).due(3000, "count", 1).due(3000, "hold", 1, 0).due(1, "about", 0, 9);
    }

    private static void fullByOne(Check check) {
        check.sentence("Promise 9", "more than 3000");
        behind(check, 2941).due(GrindWorks.FULL, "run", 60).due(2941, "count", 1).due(2941, "hold", 1, 0)
            .due(3000, "run", 59).due(3000, "sum", 0, 0);
        behind(check, 2999).due(GrindWorks.FULL, "run", 2).due(2999, "hold", 1, 0).due(3000, "run", 1).due(GrindWorks.FULL, "run", 1);
        // All other calls go on behind the last MINUTE.
        behind(check, 3000).due(3, "unit", Works.PILE).due(0, "load", 1, 1, 1).due(1, "rate", 0, 0, 2).due(1, "turn", 0, 0);
    }

    private static void badComesFirst(Check check) {
        check.sentence("Promise 9", "BAD: n not 1 .. 60; FULL: more than 3000.");
        behind(check, 3000).due(GrindWorks.BAD, "run", 61).due(GrindWorks.BAD, "run", 0).due(GrindWorks.BAD, "run", -1)
            .due(GrindWorks.BAD, "run", Integer.MAX_VALUE).due(GrindWorks.BAD, "run", Integer.MIN_VALUE);
    }

    private static void refusedChangesNothing(Check check) {
        check.sentence("Promise 9", "BAD: n not 1 .. 60; FULL: more than 3000.");
        new Refused(check, Script.busyWorks()).due(GrindWorks.BAD, "run", 0).due(GrindWorks.BAD, "run", 61)
            .due(GrindWorks.BAD, "run", -1).due(GrindWorks.BAD, "run", Integer.MAX_VALUE);
        new Refused(check, Script.fullWorks()).due(GrindWorks.FULL, "run", 6).due(GrindWorks.FULL, "run", 60)
            .due(GrindWorks.BAD, "run", 61);
    }
}
