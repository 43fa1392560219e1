/** Promise 1: nothing is there yet, whatever is asked. */
public final class Edges01NewObjectTest {
    public static void main(String[] args) {
        Check check = new Check();
        noUnits(check);
        noCallFindsAUnit(check);
        nothingElse(check);
        minutesGoByWithoutUnits(check);
        anotherObject(check);
        check.end();
    }

    private static void noUnits(Check check) {
        check.sentence("Promise 1", "`GrindWorks()`: No UNITS.");
        new Probe(check).due(0, "count", 0).due(0, "count", 3).due(0, "unit", Works.END).due(1, "count", 0);
    }

    private static void noCallFindsAUnit(Check check) {
        check.sentence("Promise 1", "No UNITS.");
        Probe x = new Probe(check);
        for (int unit = 0; unit < 10; unit++) {
            x.due(GrindWorks.NONE, "lead", unit, 0, -1).due(GrindWorks.NONE, "rate", unit, 0, 0);
            x.due(GrindWorks.NONE, "table", unit, 0, 0, 0, 0).due(GrindWorks.NONE, "set", unit, 0, 1);
            x.due(GrindWorks.NONE, "control", unit, unit, 0, 0).due(GrindWorks.NONE, "turn", unit, 1);
            x.due(GrindWorks.NONE, "hold", unit, 0).due(GrindWorks.NONE, "told", unit, 0);
            x.due(GrindWorks.NO, "ledBack", unit, unit, 0, 0).due(GrindWorks.NONE, "reading", unit, 0, 0, 1);
            x.due(GrindWorks.NO, "close", unit, 0, 0).due(GrindWorks.NO, "close", unit, 0, 1);
            for (int what = 0; what <= 10; what++) {
                x.due(GrindWorks.NONE, "about", unit, what);
            }
        }
        x.due(0, "count", 0);
    }

    private static void nothingElse(Check check) {
        check.sentence("Promise 1", "No UNITS.");
        Probe x = new Probe(check).due(0, "count", 1).due(0, "count", 2).due(0, "unload");
        for (int what = 0; what < 4; what++) {
            x.due(0, "sum", 0, what).due(0, "sum", 1, what);
        }
        x.due(GrindWorks.NONE, "blend", 1, Integer.MAX_VALUE, 0);
    }

    private static void minutesGoByWithoutUnits(Check check) {
        check.sentence("Promise 1", "No UNITS.");
        Probe x = new Probe(check).due(1, "run", 1).due(61, "run", 60).due(0, "sum", 0, 0).due(0, "unit", Works.FEED);
        x.due(0, "about", 0, 8).due(61, "count", 1);
    }

    private static void anotherObject(Check check) {
        check.sentence("Promise 1", "`GrindWorks()`");
        Probe x = Probe.feeding(check, Works.PILE).does("rate", 0, 0, 5).does("run", 9).does("load", 1, 1, 1);
        Probe y = new Probe(check);
        for (int what = 0; what < 4; what++) {
            y.due(0, "count", what).due(0, "sum", 0, what);
        }
        y.does("unit", Works.FEED).does("unit", Works.END).due(0, "told", 0, 0).due(GrindWorks.NONE, "about", 0, 5);
        y.does("run", 3).due(0, "about", 0, 9).due(3, "count", 1);
        x.due(3, "count", 0).due(9, "count", 1).due(1, "count", 2).due(45, "sum", 0, 0);
    }
}
