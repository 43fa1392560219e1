/** hold: a cell of a unit's hold; NONE for no such unit or cell. */
public final class Promise10HoldTest {
    public static void main(String[] args) {
        Check check = new Check();
        GrindWorks x = Works.ofEachKind();
        for (int cell = 0; cell < 8; cell++) {
            x.rate(0, cell, 1 + cell);
        }
        for (int unit = 1; unit < 8; unit++) {
            x.lead(0, 0, unit);
            x.run(1);
            for (int cell = 0; cell < 8; cell++) {
                check.due("hold(" + unit + ", " + cell + ")", x.hold(unit, cell), 1 + cell);
                check.due("hold(0, " + cell + ") of a FEED", x.hold(0, cell), 0);
            }
        }
        for (int cell = 0; cell < 8; cell++) {
            check.due("hold(6, " + cell + ") a MINUTE later", x.hold(6, cell), 0);
        }
        x.run(2);
        check.due("an END keeps all", x.hold(7, 3), 12);
        for (int unit = 0; unit < 8; unit++) {
            check.due("hold(" + unit + ", 8)", x.hold(unit, 8), GrindWorks.NONE);
            check.due("hold(" + unit + ", -1)", x.hold(unit, -1), GrindWorks.NONE);
        }
        check.due("hold(8, 0)", x.hold(8, 0), GrindWorks.NONE);
        check.due("hold(9, 0)", x.hold(9, 0), GrindWorks.NONE);
        check.due("hold(10, 0)", x.hold(10, 0), GrindWorks.NONE);
        check.due("hold(-1, 0)", x.hold(-1, 0), GrindWorks.NONE);
        for (int strange : Works.STRANGE) {
            check.due("hold(" + strange + ", 0)", x.hold(strange, 0), GrindWorks.NONE);
            check.due("hold(7, " + strange + ")", x.hold(7, strange), GrindWorks.NONE);
        }
        check.end();
    }
}
