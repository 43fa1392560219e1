/**
 * Terms, part 4: which refusal is the first one told, of each call that can refuse for several reasons. Where
 * a call's own promise tells its refusals in another order than part 4 does, the promise's order is meant.
 */
public final class Terms4RefusalsTest {
    private static final int NONE = GrindWorks.NONE, BAD = GrindWorks.BAD, STATE = GrindWorks.STATE, FULL = GrindWorks.FULL;

    public static void main(String[] args) {
        Check check = new Check();
        theConstants(check);
        noneThenFull(check);
        noneThenBad(check);
        noneThenStateThenBad(check);
        noneThenStateThenNoneThenBad(check);
        badThenFull(check);
        noSuch(check);
        theyChangeNothing(check);
        check.end();
    }

    private static void theConstants(Check check) {
        check.sentence("Terms 4", "The constants: `NO = Long.MIN_VALUE`: There is no such number.");
        check.due("NO", GrindWorks.NO, Long.MIN_VALUE);
        new Probe(check).due(Long.MIN_VALUE, "sum", 2, 0).due(Long.MIN_VALUE, "sum", 0, 4);
    }

    private static void noneThenFull(Check check) {
        check.sentence("Terms 4", "REFUSALS, of several the first one told");
        Probe x = Probe.ofTen(check, Works.JOIN).due(NONE, "unit", 8).due(NONE, "unit", -1).due(FULL, "unit", 7);
        x.due(FULL, "unit", 0);
    }

    private static void noneThenBad(Check check) {
        check.sentence("Terms 4", "REFUSALS, of several the first one told");
        Probe x = Probe.ofEachKind(check);
        x.due(NONE, "lead", 8, 0, 0).due(NONE, "lead", -1, 0, 0).due(NONE, "lead", 1, 1, 0).due(NONE, "lead", 3, 2, 0);
        x.due(NONE, "lead", 7, 0, 0).due(NONE, "lead", 1, -1, 0).due(BAD, "lead", 1, 0, 0).due(BAD, "lead", 3, 1, 0);
    }

    private static void noneThenStateThenBad(Check check) {
        check.sentence("Terms 4", "REFUSALS, of several the first one told");
        Probe x = Probe.ofEachKind(check);
        x.due(NONE, "rate", 8, 0, -1).due(NONE, "rate", 0, 8, -1).due(NONE, "rate", 1, 8, 5).due(NONE, "rate", 1, -1, -1);
        x.due(STATE, "rate", 1, 7, 1001).due(STATE, "rate", 7, 0, -1).due(BAD, "rate", 0, 7, 1001);
        x.due(NONE, "table", 8, 0, 11, 0, 0).due(NONE, "table", 2, 4, 11, 0, 0).due(NONE, "table", 1, 4, 0, 0, 0);
        x.due(NONE, "table", 0, -1, -1, 0, 0).due(STATE, "table", 3, 3, 1, 0, 0).due(STATE, "table", 0, 0, 11, 0, 0);
        x.due(BAD, "table", 2, 3, 1, 0, 0);
        x.due(NONE, "control", 8, 1, 1, 2).due(NONE, "control", 0, 8, 1, 2).due(NONE, "control", 1, 8, 5, 5);
        x.due(NONE, "control", 1, -1, -1, 5).due(STATE, "control", 1, 0, 1, 2).due(STATE, "control", 7, 1, -1, 0);
        x.due(BAD, "control", 0, 1, 1, 2);
        x.due(NONE, "turn", 8, 2).due(NONE, "turn", -1, -1).due(STATE, "turn", 1, 2).due(STATE, "turn", 7, -1);
        x.due(BAD, "turn", 0, 2);
    }

    private static void noneThenStateThenNoneThenBad(Check check) {
        check.sentence("Terms 4", "REFUSALS, of several the first one told");
        Probe x = Probe.ofEachKind(check);
        x.due(NONE, "set", 8, 9, -1).due(STATE, "set", 0, 9, -1).due(STATE, "set", 1, -1, 5).due(STATE, "set", 2, 16, 5);
        x.due(STATE, "set", 7, 1, -1).due(NONE, "set", 3, 4, 11).due(NONE, "set", 4, 2, -1).due(NONE, "set", 5, 1, 0);
        x.due(NONE, "set", 6, 1, 5001).due(BAD, "set", 3, 3, 11).due(BAD, "set", 5, 0, 0);
        x.due(NONE, "reading", 8, 3, -1, 0).due(NONE, "reading", 0, 3, 5, 1).due(NONE, "reading", 7, -1, -1, 0);
        x.due(STATE, "reading", 0, 2, -1, 0).due(STATE, "reading", 7, 2, 5, 1).due(NONE, "reading", 1, 2, -1, 0);
        x.due(NONE, "reading", 6, 2, 100001, 101).due(BAD, "reading", 1, 1, -1, 0).due(BAD, "reading", 3, 2, -1, 0);
    }

    private static void badThenFull(Check check) {
        check.sentence("Terms 4", "REFUSALS, of several the first one told");
        Probe x = new Probe(check);
        for (int i = 0; i < 50; i++) {
            x.does("run", 60).does("load", 1, 1, 1);
        }
        x.due(BAD, "run", 61).due(BAD, "run", 0).due(FULL, "run", 1).due(FULL, "run", 60);
        x.due(BAD, "load", 0, 1, 1).due(BAD, "load", 1, 101, 1).due(BAD, "load", 1, 1, -1).due(FULL, "load", 1, 1, 1);
    }

    private static void noSuch(Check check) {
        check.sentence("Terms 4", "NONE there is no such UNIT, PORT, SIZE, STUFF, cell, LOAD, what; BAD a number is not as"
            + " told; STATE as told; FULL.");
        Probe x = Probe.ofEachKind(check);
        int[] strange = {Integer.MIN_VALUE, Integer.MIN_VALUE + 1, -65536, -2, 10, 16, 256, 65536, Integer.MAX_VALUE};
        for (int n : strange) {
            x.due(NONE, "unit", n).due(NONE, "lead", n, 0, 7).due(NONE, "lead", 1, n, 7).due(NONE, "lead", 1, 0, n);
            x.due(NONE, "rate", n, 0, 1).due(NONE, "rate", 0, n, 1).due(NONE, "table", n, 0, 0, 0, 0);
            x.due(NONE, "table", 2, n, 0, 0, 0).due(NONE, "set", n, 0, 1).due(NONE, "set", 3, n, 1).due(NONE, "turn", n, 0);
            x.due(NONE, "control", n, 1, 0, 0).due(NONE, "control", 0, n, 0, 0).due(NONE, "hold", n, 0);
            x.due(NONE, "hold", 1, n).due(NONE, "about", n, 0).due(NONE, "told", n, 0).due(NONE, "told", 0, n);
            x.due(GrindWorks.NO, "sum", n, 0).due(GrindWorks.NO, "sum", 0, n).due(GrindWorks.NO, "ledBack", n, 0, 0, 0);
            x.due(GrindWorks.NO, "ledBack", 7, n, 0, 0).due(GrindWorks.NO, "ledBack", 7, 0, n, 0);
            x.due(GrindWorks.NO, "ledBack", 7, 0, 0, n).due(NONE, "reading", n, 0, 1, 1).due(NONE, "reading", 3, n, 1, 1);
            x.due(GrindWorks.NO, "close", n, 0, 0).due(GrindWorks.NO, "close", 3, n, 0).due(GrindWorks.NO, "close", 3, 0, n);
            x.due(NONE, "count", n).due(n == 10 ? 0 : NONE, "about", 1, n);
        }
    }

    private static void theyChangeNothing(Check check) {
        check.sentence("Terms 4", "They change nothing.");
        new Refused(check, Script.fullWorks()).due(FULL, "unit", 0).due(FULL, "load", 1, 1, 1).due(FULL, "run", 6);
        new Refused(check, new Script()).due(NONE, "unit", 8).due(BAD, "run", 0).due(BAD, "load", 0, 0, 0)
            .due(NONE, "lead", 0, 0, -1).due(NONE, "rate", 0, 0, 5).due(NONE, "table", 0, 0, 1, 1, 1)
            .due(NONE, "set", 0, 0, 1).due(NONE, "control", 0, 0, 5, 5).due(NONE, "turn", 0, 0)
            .due(NONE, "reading", 0, 0, 5, 5);
    }
}
