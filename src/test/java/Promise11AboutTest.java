/** about: each of the eleven looks at each kind; NONE for no such unit or look. */
public final class Promise11AboutTest {
    public static void main(String[] args) {
        Check check = new Check();
        looks(check);
        spiltStillGave(check);
        refusals(check);
        check.end();
    }

    private static void row(Check check, GrindWorks x, int unit, int... want) {
        for (int what = 0; what < want.length; what++) {
            check.due("about(" + unit + ", " + what + ")", x.about(unit, what), want[what]);
        }
    }

    private static void looks(Check check) {
        GrindWorks x = Works.ofEachKind();
        for (int unit = 0; unit < 8; unit++) {
            row(check, x, unit, unit, 0, 0, 0, 0, -1, -1, unit == 0 ? 1 : 0, 0, 0, 0);
        }
        // The FEED leads to the FLOAT, its PORT 0 to the TANK, PORT 1 to the PILE; the others are alone.
        x.rate(0, 0, 20);
        x.rate(0, 3, 31);
        x.lead(0, 0, 4);
        x.lead(4, 0, 5);
        x.lead(4, 1, 6);
        x.lead(5, 0, 7);
        x.set(4, 0, 8);
        x.set(4, 1, 0);
        x.set(5, 0, 3);
        x.set(6, 0, 0);
        x.run(4);
        row(check, x, 0, 0, 0, 0, 0, 0, 4, -1, 1, 0, 51, 0);
        row(check, x, 1, 1, 0, 0, 0, 0, -1, -1, 0, 0, 0, 0);
        row(check, x, 4, 4, 51, 0, 0, 0, 5, 6, 0, 0, 16, 35);
        row(check, x, 5, 5, 16, 32, 0, 0, 7, -1, 0, 0, 0, 0);
        row(check, x, 6, 6, 35, 0, 70, 2, -1, -1, 0, 0, 0, 0);
        row(check, x, 7, 7, 0, 0, 0, 0, -1, -1, 0, 0, 0, 0);
        x.set(6, 0, 5000);
        x.run(1);
        row(check, x, 5, 5, 16, 32, 0, 0, 7, -1, 0, 0, 16, 0);
        row(check, x, 6, 6, 35, 0, 0, 0, -1, -1, 0, 105, 105, 0);
        row(check, x, 7, 7, 16, 0, 0, 0, -1, -1, 0, 0, 0, 0);
        x.turn(0, 0);
        x.run(1);
        row(check, x, 0, 0, 0, 0, 0, 0, 4, -1, 0, 0, 0, 0);
        row(check, x, 4, 4, 0, 0, 0, 0, 5, 6, 0, 0, 16, 35);
        row(check, x, 6, 6, 35, 0, 0, 0, -1, -1, 0, 140, 35, 0);
        x.run(1);
        row(check, x, 4, 4, 0, 0, 0, 0, 5, 6, 0, 0, 0, 0);
        // A run of several MINUTES: what was given in the latest one alone.
        x.turn(0, 1);
        x.run(10);
        row(check, x, 0, 0, 0, 0, 0, 0, 4, -1, 1, 0, 51, 0);
    }

    private static void spiltStillGave(Check check) {
        GrindWorks x = Works.feeding(Works.MILL);
        x.rate(0, 0, 6);
        x.lead(0, 0, -1);
        x.run(3);
        row(check, x, 0, 0, 0, 0, 0, 0, -1, -1, 1, 18, 6, 0);
        row(check, x, 1, 2, 0, 0, 0, 0, 2, -1, 0, 0, 0, 0);
    }

    private static void refusals(Check check) {
        GrindWorks x = Works.ofEachKind();
        for (int unit = 0; unit < 8; unit++) {
            check.due("about(" + unit + ", 11)", x.about(unit, 11), GrindWorks.NONE);
            check.due("about(" + unit + ", -1)", x.about(unit, -1), GrindWorks.NONE);
        }
        for (int what = 0; what <= 10; what++) {
            check.due("about(8, " + what + ")", x.about(8, what), GrindWorks.NONE);
            check.due("about(-1, " + what + ")", x.about(-1, what), GrindWorks.NONE);
        }
        for (int strange : Works.STRANGE) {
            check.due("about(" + strange + ", 0)", x.about(strange, 0), GrindWorks.NONE);
            check.due("about(0, " + strange + ")", x.about(0, strange), GrindWorks.NONE);
        }
    }
}
