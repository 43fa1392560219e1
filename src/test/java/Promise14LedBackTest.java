/** ledBack: what each unit gave to each end, by size as it came and by stuff; NO for none such and no end. */
public final class Promise14LedBackTest {
    public static void main(String[] args) {
        Check check = new Check();
        byUnits(check);
        bothPorts(check);
        asItCame(check);
        refusals(check);
        check.end();
    }

    private static void byUnits(Check check) {
        GrindWorks x = new GrindWorks();
        x.unit(Works.FEED);
        x.unit(Works.FEED);
        x.unit(Works.JOIN);
        x.unit(Works.END);
        x.unit(Works.END);
        x.lead(0, 0, 3);
        x.lead(1, 0, 2);
        x.lead(2, 0, 3);
        for (int cell = 0; cell < 8; cell++) {
            x.rate(0, cell, 1 + cell);
            x.rate(1, cell, 100 + cell);
        }
        x.run(3);
        x.lead(2, 0, 4);
        x.run(1);
        for (int cell = 0; cell < 8; cell++) {
            int size = cell / 2;
            int stuff = cell % 2;
            String what = ", " + size + ", " + stuff + ")";
            check.due("ledBack(3, 0" + what, x.ledBack(3, 0, size, stuff), 4 * (1 + cell));
            check.due("ledBack(3, 1" + what + ": not at once", x.ledBack(3, 1, size, stuff), 0);
            check.due("ledBack(3, 2" + what, x.ledBack(3, 2, size, stuff), 2 * (100 + cell));
            check.due("ledBack(3, 3" + what, x.ledBack(3, 3, size, stuff), 0);
            check.due("ledBack(4, 0" + what, x.ledBack(4, 0, size, stuff), 0);
            check.due("ledBack(4, 2" + what, x.ledBack(4, 2, size, stuff), 100 + cell);
            check.due("hold(3, " + cell + ")", x.hold(3, cell), 4 * (1 + cell) + 2 * (100 + cell));
        }
    }

    private static void bothPorts(Check check) {
        GrindWorks x = Works.feeding(Works.SCREEN);
        x.rate(0, 4, 13);
        x.run(3);
        check.due("ledBack(2, 1, 2, 0): both PORTS", x.ledBack(2, 1, 2, 0), 26);
        x.lead(1, 1, -1);
        x.run(2);
        check.due("ledBack(2, 1, 2, 0): what is SPILT is not led", x.ledBack(2, 1, 2, 0), 26 + 13);
        check.due("about(1, 8)", x.about(1, 8), 13);
    }

    private static void asItCame(Check check) {
        GrindWorks x = Works.feeding(Works.MILL);
        x.rate(0, 1, 10);
        x.table(1, 0, 0, 0, 7);
        x.run(2);
        check.due("ledBack(2, 1, 0, 1)", x.ledBack(2, 1, 0, 1), 3);
        check.due("ledBack(2, 1, 3, 1)", x.ledBack(2, 1, 3, 1), 7);
        check.due("ledBack(2, 1, 3, 0)", x.ledBack(2, 1, 3, 0), 0);
        check.due("ledBack(2, 0, 0, 1): the FEED gave to the MILL", x.ledBack(2, 0, 0, 1), 0);
    }

    private static void refusals(Check check) {
        GrindWorks x = Works.ofEachKind();
        for (int unit = 0; unit < 7; unit++) {
            check.due("ledBack(" + unit + ", 0, 0, 0)", x.ledBack(unit, 0, 0, 0), GrindWorks.NO);
        }
        for (int unit = 0; unit < 8; unit++) {
            check.due("ledBack(7, " + unit + ", 3, 1)", x.ledBack(7, unit, 3, 1), 0);
        }
        check.due("ledBack(8, 0, 0, 0)", x.ledBack(8, 0, 0, 0), GrindWorks.NO);
        check.due("ledBack(-1, 0, 0, 0)", x.ledBack(-1, 0, 0, 0), GrindWorks.NO);
        check.due("ledBack(7, 8, 0, 0)", x.ledBack(7, 8, 0, 0), GrindWorks.NO);
        check.due("ledBack(7, -1, 0, 0)", x.ledBack(7, -1, 0, 0), GrindWorks.NO);
        check.due("ledBack(7, 0, 4, 0)", x.ledBack(7, 0, 4, 0), GrindWorks.NO);
        check.due("ledBack(7, 0, -1, 0)", x.ledBack(7, 0, -1, 0), GrindWorks.NO);
        check.due("ledBack(7, 0, 0, 2)", x.ledBack(7, 0, 0, 2), GrindWorks.NO);
        check.due("ledBack(7, 0, 0, -1)", x.ledBack(7, 0, 0, -1), GrindWorks.NO);
        for (int strange : Works.STRANGE) {
            check.due("ledBack(" + strange + ", 0, 0, 0)", x.ledBack(strange, 0, 0, 0), GrindWorks.NO);
            check.due("ledBack(7, " + strange + ", 0, 0)", x.ledBack(7, strange, 0, 0), GrindWorks.NO);
            check.due("ledBack(7, 0, " + strange + ", 0)", x.ledBack(7, 0, strange, 0), GrindWorks.NO);
            check.due("ledBack(7, 0, 0, " + strange + ")", x.ledBack(7, 0, 0, strange), GrindWorks.NO);
        }
    }
}
