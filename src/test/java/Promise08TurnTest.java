/** turn: a feed on or off, and what it was; NONE, then STATE, then BAD. */
public final class Promise08TurnTest {
    public static void main(String[] args) {
        Check check = new Check();
        turning(check);
        refusals(check);
        check.end();
    }

    private static void turning(Check check) {
        GrindWorks x = Works.feeding(Works.JOIN);
        x.rate(0, 2, 8);
        check.due("turn(0, 1) of one that is ON", x.turn(0, 1), 1);
        check.due("turn(0, 0)", x.turn(0, 0), 1);
        check.due("about(0, 7)", x.about(0, 7), 0);
        check.due("turn(0, 0) again", x.turn(0, 0), 0);
        x.run(2);
        check.due("a FEED that is off gives nothing", x.sum(0, 0), 0);
        check.due("its RATE stays", x.told(0, 2), 8);
        check.due("turn(0, 1)", x.turn(0, 1), 0);
        x.run(2);
        check.due("a FEED that is ON gives", x.sum(0, 0), 16);
        check.due("about(0, 9)", x.about(0, 9), 8);
        x.turn(0, 0);
        check.due("what it gave in the latest MINUTE stays told", x.about(0, 9), 8);
        x.run(1);
        check.due("about(0, 9) off", x.about(0, 9), 0);
    }

    private static void refusals(Check check) {
        GrindWorks x = Works.ofEachKind();
        check.due("turn(8, 0)", x.turn(8, 0), GrindWorks.NONE);
        check.due("turn(-1, 0)", x.turn(-1, 0), GrindWorks.NONE);
        check.due("turn(8, 2): NONE first", x.turn(8, 2), GrindWorks.NONE);
        for (int unit = 1; unit < 8; unit++) {
            check.due("turn(" + unit + ", 0)", x.turn(unit, 0), GrindWorks.STATE);
            check.due("turn(" + unit + ", 2): STATE first", x.turn(unit, 2), GrindWorks.STATE);
        }
        check.due("turn(0, 2)", x.turn(0, 2), GrindWorks.BAD);
        check.due("turn(0, -1)", x.turn(0, -1), GrindWorks.BAD);
        for (int strange : Works.STRANGE) {
            check.due("turn(" + strange + ", 0)", x.turn(strange, 0), GrindWorks.NONE);
            check.due("turn(0, " + strange + ")", x.turn(0, strange), GrindWorks.BAD);
        }
        check.due("refused turns change nothing", x.about(0, 7), 1);
        x.turn(0, 0);
        check.due("turn(0, 2) of one that is off", x.turn(0, 2), GrindWorks.BAD);
        check.due("refused turns change nothing", x.about(0, 7), 0);
    }
}
