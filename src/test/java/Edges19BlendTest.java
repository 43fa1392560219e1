/** Promise 19: the least and the greatest weight and good part that may be asked for, and when there is no set. */
public final class Edges19BlendTest {
    public static void main(String[] args) {
        Check check = new Check();
        asBits(check);
        thereIsNone(check);
        leastBelowNothing(check);
        leastAboveGreatest(check);
        goodParts(check);
        badBeforeNone(check);
        choosingChangesNothing(check);
        check.end();
    }

    private static void asBits(Check check) {
        check.sentence("Promise 19", "CHOSEN: the set, as bits.");
        Probe x = new Probe(check);
        for (int i = 0; i < 10; i++) {
            x.does("load", 1 << i, 50, 5);
        }
        // The WEIGHTS are powers of two: the set is the weight that is asked for.
        for (int weight = 1; weight < 1024; weight += 7) {
            x.due(weight, "blend", weight, weight, 50);
        }
        x.due(1, "blend", 1, 1, 0).due(512, "blend", 512, 512, 0).due(1023, "blend", 1023, 1023, 0);
    }

    private static void thereIsNone(Check check) {
        check.sentence("Promise 19", "NONE: there is none");
        Probe x = new Probe(check).due(GrindWorks.NONE, "blend", 1, Integer.MAX_VALUE, 0).does("load", 10, 60, 1);
        x.due(GrindWorks.NONE, "blend", 1, 9, 0).due(GrindWorks.NONE, "blend", 11, 99, 0).due(GrindWorks.NONE, "blend", 1, 99, 61);
        x.due(1, "blend", 1, 10, 60).due(1, "blend", 10, 99, 60).does("unload").due(GrindWorks.NONE, "blend", 1, 99, 0);
    }

    private static void leastBelowNothing(Check check) {
        check.sentence("Promise 19", "BAD: least below 0");
        Probe x = new Probe(check).does("load", 10, 60, 1).due(GrindWorks.BAD, "blend", -1, 10, 50);
        x.due(GrindWorks.BAD, "blend", -1, -1, 50).due(GrindWorks.BAD, "blend", Integer.MIN_VALUE, Integer.MAX_VALUE, 0);
        x.due(0, "blend", 0, 10, 50).due(1, "blend", 1, 10, 50);
    }

    private static void leastAboveGreatest(Check check) {
        check.sentence("Promise 19", "above greatest");
        Probe x = new Probe(check).does("load", 10, 60, 1).due(1, "blend", 10, 10, 50).due(GrindWorks.BAD, "blend", 11, 10, 50);
        x.due(GrindWorks.BAD, "blend", 0, -1, 50).due(GrindWorks.BAD, "blend", 1, 0, 50).due(0, "blend", 0, 0, 50);
        x.due(GrindWorks.BAD, "blend", Integer.MAX_VALUE, Integer.MAX_VALUE - 1, 0).due(1, "blend", 10, Integer.MAX_VALUE, 0);
        x.due(GrindWorks.BAD, "blend", 5, Integer.MIN_VALUE, 0);
    }

    private static void goodParts(Check check) {
        check.sentence("Promise 19", "g not 0 .. 100.");
        Probe x = new Probe(check).does("load", 10, 0, 1).does("load", 10, 100, 2).due(1, "blend", 10, 10, 0);
        x.due(2, "blend", 10, 10, 100).due(GrindWorks.BAD, "blend", 10, 10, -1).due(GrindWorks.BAD, "blend", 10, 10, 101);
        for (int strange : Works.STRANGE) {
            x.due(GrindWorks.BAD, "blend", 10, 10, strange);
        }
    }

    /** Though NONE is told first here: a least weight above the greatest could else never be BAD. */
    private static void badBeforeNone(Check check) {
        check.sentence("Promise 19", "NONE: there is none; BAD: least below 0, above greatest, g not 0 .. 100.");
        Probe x = new Probe(check).due(GrindWorks.BAD, "blend", -1, -1, 0).due(GrindWorks.BAD, "blend", 2, 1, 0);
        x.due(GrindWorks.BAD, "blend", 1, 1, 101).due(GrindWorks.BAD, "blend", 1, 1, -1).due(GrindWorks.NONE, "blend", 1, 1, 0);
    }

    private static void choosingChangesNothing(Check check) {
        check.sentence("Promise 19", "NONE: there is none; BAD: least below 0");
        new Refused(check, Script.busyWorks()).due(15, "blend", 15, 15, 0).due(GrindWorks.NONE, "blend", 16, 99, 0)
            .due(GrindWorks.BAD, "blend", -1, 5, 0).due(GrindWorks.BAD, "blend", 6, 5, 0).due(GrindWorks.BAD, "blend", 1, 5, 101);
    }
}
