/** close: readings made to close, as fractions without a common divisor; NO where there is none. */
public final class Promise16CloseTest {
    public static void main(String[] args) {
        Check check = new Check();
        twoPorts(check);
        onePort(check);
        belowNothing(check);
        greatest(check);
        refusals(check);
        check.end();
    }

    private static void tell(GrindWorks x, int unit, int... numbersAndDoubts) {
        for (int i = 0; i < numbersAndDoubts.length; i += 2) {
            x.reading(unit, i / 2, numbersAndDoubts[i], numbersAndDoubts[i + 1]);
        }
    }

    private static void row(Check check, GrindWorks x, int unit, long... aboveAndBelow) {
        for (int i = 0; i < aboveAndBelow.length; i++) {
            check.due("close(" + unit + ", " + i / 2 + ", " + i % 2 + ")", x.close(unit, i / 2, i % 2), aboveAndBelow[i]);
        }
    }

    private static void twoPorts(Check check) {
        GrindWorks x = Works.ofEachKind();
        tell(x, Works.SCREEN, 100, 2, 60, 3, 30, 1);
        row(check, x, Works.SCREEN, 290, 3, 65, 1, 95, 3);
        row(check, x, Works.FLOAT, 0, 1, 0, 1, 0, 1);
        tell(x, Works.FLOAT, 50, 4, 40, 5, 30, 1);
        // 20 too much behind: 50 and 8, 40 less 10, 30 less 2.
        row(check, x, Works.FLOAT, 58, 1, 30, 1, 28, 1);
        tell(x, Works.FLOAT, 70, 4, 40, 5, 30, 1);
        row(check, x, Works.FLOAT, 70, 1, 40, 1, 30, 1);
        row(check, x, Works.SCREEN, 290, 3, 65, 1, 95, 3);
    }

    private static void onePort(Check check) {
        GrindWorks x = Works.ofEachKind();
        int[] units = {Works.JOIN, Works.MILL, Works.TANK, Works.PILE};
        for (int unit : units) {
            row(check, x, unit, 0, 1, 0, 1);
            tell(x, unit, 10, 1, 20 + unit, 6);
            // 10 and a seventh of 10 + unit; both are the same number.
            int wanting = 10 + unit;
            long divisor = (70 + wanting) % 7 == 0 ? 7 : 1;
            row(check, x, unit, (70 + wanting) / divisor, 7 / divisor, (70 + wanting) / divisor, 7 / divisor);
            check.due("close(" + unit + ", 2, 0)", x.close(unit, 2, 0), GrindWorks.NO);
            check.due("close(" + unit + ", 2, 1)", x.close(unit, 2, 1), GrindWorks.NO);
        }
    }

    private static void belowNothing(Check check) {
        GrindWorks x = Works.ofEachKind();
        tell(x, Works.SCREEN, 0, 1, 100, 1, 0, 100);
        // 100 too much behind, by 102: 100 by 102; 100 less that; less 10000 by 102.
        row(check, x, Works.SCREEN, 50, 51, 5050, 51, -5000, 51);
        tell(x, Works.SCREEN, 0, 1, 4, 2, 0, 1);
        row(check, x, Works.SCREEN, 1, 1, 2, 1, -1, 1);
        tell(x, Works.SCREEN, 4, 2, 0, 1, 8, 1);
        row(check, x, Works.SCREEN, 6, 1, -1, 1, 7, 1);
        tell(x, Works.SCREEN, 6, 1, 1, 1, 2, 1);
        row(check, x, Works.SCREEN, 5, 1, 2, 1, 3, 1);
        tell(x, Works.SCREEN, 2, 2, 0, 1, 0, 1);
        row(check, x, Works.SCREEN, 1, 1, 1, 2, 1, 2);
        tell(x, Works.SCREEN, 0, 1, 2, 1, 1, 1);
        row(check, x, Works.SCREEN, 1, 1, 1, 1, 0, 1);
    }

    private static void greatest(Check check) {
        GrindWorks x = Works.ofEachKind();
        tell(x, Works.FLOAT, 0, 1, 100000, 100, 100000, 100);
        // 200000 too much, by 201.
        row(check, x, Works.FLOAT, 200000, 201, 100000, 201, 100000, 201);
        tell(x, Works.FLOAT, 100000, 99, 100000, 100, 100000, 98);
        // 100000 too much, by 297: 39600000 by 297 has the common divisor 99.
        row(check, x, Works.FLOAT, 400000, 3, 29700000 - 10000000, 297, 29700000 - 9800000, 297);
    }

    private static void refusals(Check check) {
        GrindWorks x = Works.ofEachKind();
        for (int part = 0; part < 2; part++) {
            for (int what = 0; what < 3; what++) {
                check.due("close(0, " + what + ", " + part + ")", x.close(0, what, part), GrindWorks.NO);
                check.due("close(7, " + what + ", " + part + ")", x.close(7, what, part), GrindWorks.NO);
                check.due("close(8, " + what + ", " + part + ")", x.close(8, what, part), GrindWorks.NO);
                check.due("close(-1, " + what + ", " + part + ")", x.close(-1, what, part), GrindWorks.NO);
            }
            check.due("close(3, 3, " + part + ")", x.close(3, 3, part), GrindWorks.NO);
            check.due("close(3, -1, " + part + ")", x.close(3, -1, part), GrindWorks.NO);
        }
        check.due("close(3, 0, 2)", x.close(3, 0, 2), GrindWorks.NO);
        check.due("close(3, 0, -1)", x.close(3, 0, -1), GrindWorks.NO);
        for (int strange : Works.STRANGE) {
            check.due("close(" + strange + ", 0, 0)", x.close(strange, 0, 0), GrindWorks.NO);
            check.due("close(3, " + strange + ", 0)", x.close(3, strange, 0), GrindWorks.NO);
            check.due("close(3, 0, " + strange + ")", x.close(3, 0, strange), GrindWorks.NO);
        }
    }
}
