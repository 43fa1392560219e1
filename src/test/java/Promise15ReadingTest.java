/** reading: which units have which readings; NONE, STATE, NONE, BAD in this order. */
public final class Promise15ReadingTest {
    public static void main(String[] args) {
        Check check = new Check();
        readings(check);
        bounds(check);
        order(check);
        atFirst(check);
        check.end();
    }

    private static void readings(Check check) {
        int[] ports = {0, 1, 1, 2, 2, 1, 1, 0};
        for (int unit = 1; unit < 7; unit++) {
            GrindWorks x = Works.ofEachKind();
            check.due("reading(" + unit + ", 0, 30, 1)", x.reading(unit, 0, 30, 1), 0);
            check.due("reading(" + unit + ", 1, 10, 1)", x.reading(unit, 1, 10, 1), 0);
            int second = x.reading(unit, 2, 20, 1);
            check.due("reading(" + unit + ", 2, 20, 1)", second, ports[unit] == 2 ? 0 : GrindWorks.NONE);
            // Two PORTS close as they are; one PORT meets what comes in half way.
            check.due("close(" + unit + ", 0, 0)", x.close(unit, 0, 0), ports[unit] == 2 ? 30 : 20);
            check.due("close(" + unit + ", 1, 0)", x.close(unit, 1, 0), ports[unit] == 2 ? 10 : 20);
            check.due("reading(" + unit + ", 1, 30, 1) in place of the one before", x.reading(unit, 1, 30, 1), 0);
            check.due("close(" + unit + ", 0, 0)", x.close(unit, 0, 0), ports[unit] == 2 ? 110 : 30);
        }
    }

    private static void bounds(Check check) {
        GrindWorks x = Works.ofEachKind();
        x.reading(3, 0, 77, 7);
        x.reading(3, 1, 44, 3);
        x.reading(3, 2, 10, 9);
        for (int what = 0; what < 3; what++) {
            String call = "reading(3, " + what + ", ";
            check.due(call + "-1, 1)", x.reading(3, what, -1, 1), GrindWorks.BAD);
            check.due(call + "100001, 1)", x.reading(3, what, 100001, 1), GrindWorks.BAD);
            check.due(call + "0, 0)", x.reading(3, what, 0, 0), GrindWorks.BAD);
            check.due(call + "0, -1)", x.reading(3, what, 0, -1), GrindWorks.BAD);
            check.due(call + "0, 101)", x.reading(3, what, 0, 101), GrindWorks.BAD);
            for (int strange : Works.STRANGE) {
                check.due(call + strange + ", 1)", x.reading(3, what, strange, 1), GrindWorks.BAD);
                check.due(call + "0, " + strange + ")", x.reading(3, what, 0, strange), GrindWorks.BAD);
            }
        }
        check.due("reading(3, 0, 100000, 100)", x.reading(3, 0, 100000, 100), 0);
        check.due("reading(3, 0, 0, 1)", x.reading(3, 0, 0, 1), 0);
    }

    private static void order(Check check) {
        GrindWorks x = Works.ofEachKind();
        check.due("reading(8, 0, 1, 1)", x.reading(8, 0, 1, 1), GrindWorks.NONE);
        check.due("reading(-1, 0, 1, 1)", x.reading(-1, 0, 1, 1), GrindWorks.NONE);
        for (int unit = 0; unit < 8; unit++) {
            check.due("reading(" + unit + ", 3, -1, 1)", x.reading(unit, 3, -1, 1), GrindWorks.NONE);
            check.due("reading(" + unit + ", -1, -1, 1)", x.reading(unit, -1, -1, 1), GrindWorks.NONE);
        }
        for (int what = 0; what < 3; what++) {
            check.due("reading(0, " + what + ", 1, 1)", x.reading(0, what, 1, 1), GrindWorks.STATE);
            check.due("reading(7, " + what + ", 1, 1)", x.reading(7, what, 1, 1), GrindWorks.STATE);
            check.due("reading(0, " + what + ", -1, 0): STATE first", x.reading(0, what, -1, 0), GrindWorks.STATE);
            check.due("reading(7, " + what + ", -1, 0): STATE first", x.reading(7, what, -1, 0), GrindWorks.STATE);
        }
        int[] onePort = {Works.JOIN, Works.MILL, Works.TANK, Works.PILE};
        for (int unit : onePort) {
            check.due("reading(" + unit + ", 2, 1, 1)", x.reading(unit, 2, 1, 1), GrindWorks.NONE);
            check.due("reading(" + unit + ", 2, -1, 0): NONE first", x.reading(unit, 2, -1, 0), GrindWorks.NONE);
            check.due("reading(" + unit + ", 1, -1, 0)", x.reading(unit, 1, -1, 0), GrindWorks.BAD);
        }
        for (int strange : Works.STRANGE) {
            check.due("reading(" + strange + ", 0, 1, 1)", x.reading(strange, 0, 1, 1), GrindWorks.NONE);
            check.due("reading(0, " + strange + ", 1, 1)", x.reading(0, strange, 1, 1), GrindWorks.NONE);
        }
    }

    private static void atFirst(Check check) {
        GrindWorks x = Works.ofEachKind();
        check.due("close(3, 0, 0) at first", x.close(3, 0, 0), 0);
        check.due("close(3, 0, 1) at first", x.close(3, 0, 1), 1);
        x.reading(3, 0, 1, 1);
        for (int what = 0; what < 3; what++) {
            // The others are 0 with a DOUBT of 1: one third each way.
            check.due("close(3, " + what + ", 0)", x.close(3, what, 0), what == 0 ? 2 : 1);
            check.due("close(3, " + what + ", 1)", x.close(3, what, 1), 3);
        }
    }
}
