/** rate: what a cell of a feed's rate was; NONE, then STATE, then BAD. */
public final class Promise04RateTest {
    public static void main(String[] args) {
        Check check = new Check();
        rates(check);
        refusals(check);
        check.end();
    }

    private static void rates(Check check) {
        GrindWorks x = Works.feeding(Works.JOIN);
        for (int cell = 0; cell < 8; cell++) {
            check.due("rate(0, " + cell + ", 10 + cell)", x.rate(0, cell, 10 + cell), 0);
        }
        x.run(1);
        for (int cell = 0; cell < 8; cell++) {
            check.due("hold(1, " + cell + ")", x.hold(1, cell), 10 + cell);
            check.due("told(0, " + cell + ")", x.told(0, cell), 10 + cell);
        }
        check.due("rate(0, 7, 1000)", x.rate(0, 7, 1000), 17);
        check.due("rate(0, 7, 0)", x.rate(0, 7, 0), 1000);
        check.due("rate(0, 7, 1)", x.rate(0, 7, 1), 0);
        check.due("told(0, 6) as it was", x.told(0, 6), 16);
    }

    private static void refusals(Check check) {
        GrindWorks x = Works.ofEachKind();
        x.rate(0, 3, 44);
        check.due("rate(8, 0, 5)", x.rate(8, 0, 5), GrindWorks.NONE);
        check.due("rate(-1, 0, 5)", x.rate(-1, 0, 5), GrindWorks.NONE);
        check.due("rate(0, 8, 5)", x.rate(0, 8, 5), GrindWorks.NONE);
        check.due("rate(0, -1, 5)", x.rate(0, -1, 5), GrindWorks.NONE);
        check.due("rate(0, 3, 1001)", x.rate(0, 3, 1001), GrindWorks.BAD);
        check.due("rate(0, 3, -1)", x.rate(0, 3, -1), GrindWorks.BAD);
        check.due("rate(0, 8, -1): NONE first", x.rate(0, 8, -1), GrindWorks.NONE);
        for (int unit = 1; unit < 8; unit++) {
            check.due("rate(" + unit + ", 0, 5)", x.rate(unit, 0, 5), GrindWorks.STATE);
            check.due("rate(" + unit + ", 0, -1): STATE first", x.rate(unit, 0, -1), GrindWorks.STATE);
            check.due("rate(" + unit + ", 8, 5): NONE first", x.rate(unit, 8, 5), GrindWorks.NONE);
            check.due("rate(" + unit + ", -1, 5): NONE first", x.rate(unit, -1, 5), GrindWorks.NONE);
        }
        for (int strange : Works.STRANGE) {
            check.due("rate(" + strange + ", 0, 1)", x.rate(strange, 0, 1), GrindWorks.NONE);
            check.due("rate(0, " + strange + ", 1)", x.rate(0, strange, 1), GrindWorks.NONE);
            check.due("rate(0, 0, " + strange + ")", x.rate(0, 0, strange), GrindWorks.BAD);
        }
    }
}
