/** control: a feed is put off above STOP and on below START, behind each minute; NONE, then STATE, then BAD. */
public final class Promise07ControlTest {
    public static void main(String[] args) {
        Check check = new Check();
        stopAndStart(check);
        edges(check);
        everythingInTheUnit(check);
        betweenNothingChanges(check);
        inPlaceOfTheOneBefore(check);
        eachFeedHasItsOwn(check);
        byAFeed(check);
        refusals(check);
        check.end();
    }

    /** A FEED of 10 a minute to a PILE that gives nothing to the END until it is told to. */
    private static GrindWorks pile() {
        GrindWorks x = Works.feeding(Works.PILE);
        x.rate(0, 0, 10);
        x.set(1, 0, 0);
        return x;
    }

    private static void stopAndStart(Check check) {
        GrindWorks x = pile();
        check.due("control(0, 1, 30, 20)", x.control(0, 1, 30, 20), 0);
        x.run(3);
        check.due("30 is not more than 30", x.about(0, 7), 1);
        x.run(1);
        check.due("40 is more than 30", x.about(0, 7), 0);
        check.due("the FEED gave in that MINUTE still", x.about(0, 9), 10);
        x.run(1);
        check.due("and gives no more", x.about(0, 9), 0);
        x.set(1, 0, 10);
        x.run(2);
        check.due("20 is not less than 20", x.about(0, 7), 0);
        check.due("20 in LOTS", x.about(1, 3), 20);
        x.run(1);
        check.due("10 is less than 20", x.about(0, 7), 1);
        x.run(1);
        check.due("the FEED gives again", x.about(0, 9), 10);
        check.due("control behind each MINUTE of a run", x.run(40), 49);
        check.due("IN behind that", x.sum(0, 0), x.sum(0, 1) + x.sum(0, 3));
    }

    private static void edges(Check check) {
        GrindWorks x = pile();
        check.due("control(0, 1, 0, 0)", x.control(0, 1, 0, 0), 0);
        x.run(1);
        check.due("10 is more than 0", x.about(0, 7), 0);
        x.set(1, 0, 10);
        x.run(1);
        check.due("0 is not less than 0", x.about(0, 7), 0);
        check.due("control(0, 1, 100000, 100000)", x.control(0, 1, 100000, 100000), 0);
        check.due("control does nothing before a MINUTE", x.about(0, 7), 0);
        x.run(1);
        check.due("0 is less than 100000", x.about(0, 7), 1);
        check.due("control(0, 1, 1, 0)", x.control(0, 1, 1, 0), 0);
        check.due("control(0, 1, 1, 1)", x.control(0, 1, 1, 1), 0);
    }

    private static void everythingInTheUnit(Check check) {
        GrindWorks x = Works.feeding(Works.TANK);
        x.rate(0, 0, 4);
        x.rate(0, 7, 6);
        x.set(1, 0, 6);
        x.control(0, 1, 29, 0);
        x.run(2);
        check.due("HOLD and SLOTS have 20", x.about(1, 1) + x.about(1, 2), 20);
        check.due("20 is not more than 29", x.about(0, 7), 1);
        x.run(1);
        check.due("HOLD and SLOTS have 30", x.about(1, 1) + x.about(1, 2), 30);
        check.due("30 is more than 29", x.about(0, 7), 0);

        GrindWorks y = Works.feeding(Works.JOIN);
        y.rate(0, 0, 5);
        y.control(0, 2, 9, 0);
        y.run(2);
        check.due("an END has 5", y.about(0, 7), 1);
        y.run(1);
        check.due("an END has 10", y.about(0, 7), 0);
    }

    private static void betweenNothingChanges(Check check) {
        GrindWorks x = pile();
        x.control(0, 1, 50, 5);
        x.run(2);
        x.turn(0, 0);
        x.run(1);
        check.due("off between START and STOP stays off", x.about(0, 7), 0);
        x.turn(0, 1);
        x.run(1);
        check.due("on between START and STOP stays on", x.about(0, 7), 1);
    }

    private static void inPlaceOfTheOneBefore(Check check) {
        GrindWorks x = pile();
        x.control(0, 1, 5, 0);
        check.due("control(0, 2, 5, 0)", x.control(0, 2, 5, 0), 0);
        x.run(3);
        check.due("the PILE controls no more", x.about(0, 7), 1);
        x.control(0, 1, 1000, 0);
        x.run(1);
        check.due("STOP is the new one", x.about(0, 7), 1);
    }

    private static void eachFeedHasItsOwn(Check check) {
        GrindWorks x = pile();
        x.unit(Works.FEED);
        x.lead(3, 0, 1);
        x.rate(3, 0, 10);
        x.control(0, 1, 30, 0);
        x.control(3, 1, 50, 0);
        x.run(2);
        check.due("FEED 0 at 40", x.about(0, 7), 0);
        check.due("FEED 3 at 40", x.about(3, 7), 1);
        x.run(2);
        check.due("FEED 3 at 60", x.about(3, 7), 0);
        check.due("in LOTS and HOLD", x.about(1, 1) + x.about(1, 3), 60);
    }

    private static void byAFeed(Check check) {
        GrindWorks x = pile();
        check.due("control(0, 0, 5, 1)", x.control(0, 0, 5, 1), 0);
        x.turn(0, 0);
        x.run(1);
        check.due("a FEED has nothing in it: less than 1", x.about(0, 7), 1);
    }

    private static void refusals(Check check) {
        GrindWorks x = Works.ofEachKind();
        x.rate(0, 0, 10);
        x.lead(0, 0, 1);
        x.control(0, 1, 100000, 0);
        check.due("control(8, 1, 5, 5)", x.control(8, 1, 5, 5), GrindWorks.NONE);
        check.due("control(-1, 1, 5, 5)", x.control(-1, 1, 5, 5), GrindWorks.NONE);
        check.due("control(0, 8, 5, 5)", x.control(0, 8, 5, 5), GrindWorks.NONE);
        check.due("control(0, -1, 5, 5)", x.control(0, -1, 5, 5), GrindWorks.NONE);
        check.due("control(0, 8, -1, 5): NONE first", x.control(0, 8, -1, 5), GrindWorks.NONE);
        check.due("control(1, 8, 5, 5): NONE first", x.control(1, 8, 5, 5), GrindWorks.NONE);
        for (int unit = 1; unit < 8; unit++) {
            check.due("control(" + unit + ", 0, 5, 5)", x.control(unit, 0, 5, 5), GrindWorks.STATE);
            check.due("control(" + unit + ", 0, 5, 6): STATE first", x.control(unit, 0, 5, 6), GrindWorks.STATE);
        }
        check.due("control(0, 1, -1, -1)", x.control(0, 1, -1, -1), GrindWorks.BAD);
        check.due("control(0, 1, 5, -1)", x.control(0, 1, 5, -1), GrindWorks.BAD);
        check.due("control(0, 1, 100001, 0)", x.control(0, 1, 100001, 0), GrindWorks.BAD);
        check.due("control(0, 1, 100001, 100001)", x.control(0, 1, 100001, 100001), GrindWorks.BAD);
        check.due("control(0, 1, 5, 6)", x.control(0, 1, 5, 6), GrindWorks.BAD);
        check.due("control(0, 1, 0, 1)", x.control(0, 1, 0, 1), GrindWorks.BAD);
        for (int strange : Works.STRANGE) {
            check.due("control(" + strange + ", 1, 5, 5)", x.control(strange, 1, 5, 5), GrindWorks.NONE);
            check.due("control(0, " + strange + ", 5, 5)", x.control(0, strange, 5, 5), GrindWorks.NONE);
            check.due("control(0, 1, " + strange + ", 0)", x.control(0, 1, strange, 0), GrindWorks.BAD);
            check.due("control(0, 1, 100000, " + strange + ")", x.control(0, 1, 100000, strange), GrindWorks.BAD);
        }
        x.run(3);
        check.due("refused controls change nothing", x.about(0, 7), 1);
    }
}
