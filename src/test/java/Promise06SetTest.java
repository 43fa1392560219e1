/** set: shares, time and most, and what units make of them; NONE, STATE, NONE, BAD in this order. */
public final class Promise06SetTest {
    public static void main(String[] args) {
        Check check = new Check();
        setting(check);
        bounds(check);
        refusals(check);
        screening(check);
        floating(check);
        restsStay(check);
        check.end();
    }

    private static void setting(Check check) {
        GrindWorks x = Works.ofEachKind();
        for (int k = 0; k < 4; k++) {
            check.due("set(3, " + k + ", 6 + k)", x.set(3, k, 6 + k), 5);
        }
        for (int k = 0; k < 4; k++) {
            check.due("set(3, " + k + ", 0)", x.set(3, k, 0), 6 + k);
        }
        check.due("set(4, 0, 2)", x.set(4, 0, 2), 5);
        check.due("set(4, 1, 3)", x.set(4, 1, 3), 5);
        check.due("set(4, 0, 9)", x.set(4, 0, 9), 2);
        check.due("set(4, 1, 9)", x.set(4, 1, 9), 3);
        check.due("set(5, 0, 6)", x.set(5, 0, 6), 1);
        check.due("set(5, 0, 2)", x.set(5, 0, 2), 6);
        check.due("set(6, 0, 5000)", x.set(6, 0, 5000), 100);
        check.due("set(6, 0, 1)", x.set(6, 0, 1), 5000);
    }

    private static void bounds(Check check) {
        int[] units = {Works.SCREEN, Works.FLOAT, Works.TANK, Works.PILE};
        int[] least = {0, 0, 1, 0};
        int[] greatest = {10, 10, 6, 5000};
        for (int i = 0; i < units.length; i++) {
            GrindWorks x = Works.ofEachKind();
            int first = x.told(units[i], 0);
            String call = "set(" + units[i] + ", 0, ";
            check.due(call + (least[i] - 1) + ")", x.set(units[i], 0, least[i] - 1), GrindWorks.BAD);
            check.due(call + (greatest[i] + 1) + ")", x.set(units[i], 0, greatest[i] + 1), GrindWorks.BAD);
            check.due(call + least[i] + ")", x.set(units[i], 0, least[i]), first);
            check.due(call + greatest[i] + ")", x.set(units[i], 0, greatest[i]), least[i]);
            check.due("told(" + units[i] + ", 0)", x.told(units[i], 0), greatest[i]);
            for (int strange : Works.STRANGE) {
                check.due(call + strange + ")", x.set(units[i], 0, strange), GrindWorks.BAD);
            }
        }
    }

    private static void refusals(Check check) {
        GrindWorks x = Works.ofEachKind();
        int[] ks = {0, 0, 0, 4, 2, 1, 1, 0};
        for (int unit = 0; unit < 8; unit++) {
            int other = ks[unit] == 0 ? GrindWorks.STATE : GrindWorks.NONE;
            check.due("set(" + unit + ", " + ks[unit] + ", 1)", x.set(unit, ks[unit], 1), other);
            check.due("set(" + unit + ", " + ks[unit] + ", -1): not BAD", x.set(unit, ks[unit], -1), other);
            check.due("set(" + unit + ", -1, -1): not BAD", x.set(unit, -1, -1), other);
            check.due("set(" + unit + ", 0, -1)", x.set(unit, 0, -1), ks[unit] == 0 ? GrindWorks.STATE : GrindWorks.BAD);
        }
        check.due("set(8, 0, 1)", x.set(8, 0, 1), GrindWorks.NONE);
        check.due("set(-1, 0, 1)", x.set(-1, 0, 1), GrindWorks.NONE);
        for (int strange : Works.STRANGE) {
            check.due("set(" + strange + ", 0, 1)", x.set(strange, 0, 1), GrindWorks.NONE);
            check.due("set(3, " + strange + ", 1)", x.set(3, strange, 1), GrindWorks.NONE);
            check.due("set(0, " + strange + ", 1)", x.set(0, strange, 1), GrindWorks.STATE);
        }
    }

    private static void screening(Check check) {
        GrindWorks x = Works.feeding(Works.SCREEN);
        x.lead(1, 1, -1);
        for (int cell = 0; cell < 8; cell++) {
            x.rate(0, cell, 7);
        }
        int[] shares = {3, 10, 0, 5};
        for (int size = 0; size < 4; size++) {
            x.set(1, size, shares[size]);
        }
        // In ten minutes seven of a cell come ten times: then its share is taken to the last tenth.
        int[] first = {2, 7, 0, 3};
        int[] second = {4, 14, 0, 7};
        int[] tenth = {21, 70, 0, 35};
        due(check, x, 2, first);
        due(check, x, 1, second);
        due(check, x, 8, tenth);
    }

    private static void due(Check check, GrindWorks x, int minutes, int[] want) {
        x.run(minutes);
        for (int cell = 0; cell < 8; cell++) {
            check.due("minute " + x.count(1) + ": hold(2, " + cell + ")", x.hold(2, cell), want[cell / 2]);
        }
    }

    private static void floating(Check check) {
        GrindWorks x = Works.feeding(Works.FLOAT);
        x.lead(1, 1, -1);
        for (int cell = 0; cell < 8; cell++) {
            x.rate(0, cell, 3);
        }
        x.set(1, 0, 9);
        x.set(1, 1, 1);
        x.run(5);
        for (int size = 0; size < 4; size++) {
            // 4 times 27 tenths and 4 times 3 tenths.
            check.due("hold(2, " + 2 * size + ")", x.hold(2, 2 * size), 10);
            check.due("hold(2, " + (2 * size + 1) + ")", x.hold(2, 2 * size + 1), 1);
        }
        check.due("about(1, 8)", x.about(1, 8), 4 * (2 + 11));
    }

    private static void restsStay(Check check) {
        GrindWorks x = Works.feeding(Works.SCREEN);
        x.lead(1, 1, -1);
        x.rate(0, 0, 1);
        x.set(1, 0, 9);
        x.run(2);
        check.due("9 tenths give nothing yet", x.hold(2, 0), 0);
        x.turn(0, 0);
        x.run(3);
        check.due("the one that was there makes 18 tenths", x.hold(2, 0), 1);
        x.run(5);
        x.turn(0, 1);
        x.set(1, 0, 2);
        x.run(2);
        check.due("the REST of 8 and a new SHARE of 2 make one", x.hold(2, 0), 2);
    }
}
