/** table: tenths of a size to the sizes behind it; what a mill makes of it; NONE, then STATE, then BAD. */
public final class Promise05TableTest {
    public static void main(String[] args) {
        Check check = new Check();
        telling(check);
        grinding(check);
        badNumbers(check);
        refusals(check);
        check.end();
    }

    private static void telling(Check check) {
        GrindWorks x = Works.ofEachKind();
        check.due("table(2, 0, 1, 2, 3)", x.table(2, 0, 1, 2, 3), 0);
        check.due("table(2, 1, 5, 4, 0)", x.table(2, 1, 5, 4, 0), 0);
        check.due("table(2, 2, 10, 0, 0)", x.table(2, 2, 10, 0, 0), 0);
        check.due("table(2, 3, 0, 0, 0)", x.table(2, 3, 0, 0, 0), 0);
        int[] want = {4, 1, 2, 3, 0, 1, 5, 4, 0, 0, 0, 10, 0, 0, 0, 10};
        for (int k = 0; k < 16; k++) {
            check.due("told(2, " + k + ")", x.told(2, k), want[k]);
        }
        check.due("table(2, 0, 0, 0, 10)", x.table(2, 0, 0, 0, 10), 0);
        check.due("told(2, 0)", x.told(2, 0), 0);
        check.due("told(2, 1)", x.told(2, 1), 0);
        check.due("told(2, 2)", x.told(2, 2), 0);
        check.due("told(2, 3)", x.told(2, 3), 10);
        check.due("table(2, 0, 0, 0, 0)", x.table(2, 0, 0, 0, 0), 0);
        check.due("told(2, 0)", x.told(2, 0), 10);
        check.due("told(2, 3)", x.told(2, 3), 0);
        check.due("told(2, 6) as it was", x.told(2, 6), 5);
    }

    private static void grinding(Check check) {
        GrindWorks x = Works.feeding(Works.MILL);
        int[] rates = {19, 7, 13, 29, 9, 1, 3, 4};
        for (int cell = 0; cell < 8; cell++) {
            x.rate(0, cell, rates[cell]);
        }
        x.table(1, 0, 3, 3, 3);
        x.table(1, 1, 5, 4, 0);
        x.table(1, 2, 9, 0, 0);
        x.run(2);
        // Of 19: 5, 5, 5, 4 stay; of 13: 6, 5, 2 stay; of 9: 8, 1 stays; 3 stay.
        int[] stuff0 = {4, 5 + 2, 5 + 6 + 1, 5 + 5 + 8 + 3};
        // Of 7: 2, 2, 2, 1 stays; of 29: 14, 11, 4 stay; of 1: 0, 1 stays; 4 stay.
        int[] stuff1 = {1, 2 + 4, 2 + 14 + 1, 2 + 11 + 0 + 4};
        for (int size = 0; size < 4; size++) {
            check.due("hold(2, " + 2 * size + ")", x.hold(2, 2 * size), stuff0[size]);
            check.due("hold(2, " + (2 * size + 1) + ")", x.hold(2, 2 * size + 1), stuff1[size]);
        }
        x.run(1);
        check.due("a MILL keeps no rest: hold(2, 0)", x.hold(2, 0), 8);
        check.due("a MILL at first breaks nothing", grindAtFirst(), 37);
    }

    private static int grindAtFirst() {
        GrindWorks x = Works.feeding(Works.MILL);
        x.rate(0, 0, 37);
        x.run(2);
        return x.hold(2, 0);
    }

    private static void badNumbers(Check check) {
        GrindWorks x = Works.ofEachKind();
        x.table(2, 0, 1, 2, 3);
        x.table(2, 1, 1, 2, 0);
        x.table(2, 2, 1, 0, 0);
        int[][] bad = {
            {0, -1, 0, 0}, {0, 0, -1, 0}, {0, 0, 0, -1}, {0, 11, 0, 0}, {0, 0, 11, 0}, {0, 0, 0, 11}, {0, 4, 4, 3},
            {0, -1, 5, 5}, {0, 11, -1, 0}, {1, 0, 0, 1}, {1, 5, 6, 0}, {1, 0, 0, -1}, {2, 0, 1, 0}, {2, 0, 0, 1},
            {2, 11, 0, 0}, {2, 0, -1, 0}, {3, 1, 0, 0}, {3, 0, 1, 0}, {3, 0, 0, 1}, {3, -1, 0, 0},
            {0, Integer.MAX_VALUE, Integer.MAX_VALUE, 2}, {0, Integer.MAX_VALUE, 1, 0}, {0, 5, Integer.MIN_VALUE, 5}};
        for (int[] b : bad) {
            String call = "table(2, " + b[0] + ", " + b[1] + ", " + b[2] + ", " + b[3] + ")";
            check.due(call, x.table(2, b[0], b[1], b[2], b[3]), GrindWorks.BAD);
        }
        check.due("table(2, 0, 4, 3, 3)", x.table(2, 0, 4, 3, 3), 0);
        check.due("table(2, 1, 5, 5, 0)", x.table(2, 1, 5, 5, 0), 0);
    }

    private static void refusals(Check check) {
        GrindWorks x = Works.ofEachKind();
        check.due("table(8, 0, 0, 0, 0)", x.table(8, 0, 0, 0, 0), GrindWorks.NONE);
        check.due("table(-1, 0, 0, 0, 0)", x.table(-1, 0, 0, 0, 0), GrindWorks.NONE);
        check.due("table(2, 4, 0, 0, 0)", x.table(2, 4, 0, 0, 0), GrindWorks.NONE);
        check.due("table(2, -1, 0, 0, 0)", x.table(2, -1, 0, 0, 0), GrindWorks.NONE);
        check.due("table(2, 4, 1, 0, 0): NONE first", x.table(2, 4, 1, 0, 0), GrindWorks.NONE);
        for (int unit = 0; unit < 8; unit++) {
            if (unit != Works.MILL) {
                check.due("table(" + unit + ", 0, 1, 1, 1)", x.table(unit, 0, 1, 1, 1), GrindWorks.STATE);
                check.due("table(" + unit + ", 0, 11, 1, 1): STATE first", x.table(unit, 0, 11, 1, 1), GrindWorks.STATE);
                check.due("table(" + unit + ", 4, 1, 1, 1): NONE first", x.table(unit, 4, 1, 1, 1), GrindWorks.NONE);
            }
        }
        for (int strange : Works.STRANGE) {
            check.due("table(" + strange + ", 0, 0, 0, 0)", x.table(strange, 0, 0, 0, 0), GrindWorks.NONE);
            check.due("table(2, " + strange + ", 0, 0, 0)", x.table(2, strange, 0, 0, 0), GrindWorks.NONE);
            check.due("table(2, 0, " + strange + ", 0, 0)", x.table(2, 0, strange, 0, 0), GrindWorks.BAD);
        }
    }
}
