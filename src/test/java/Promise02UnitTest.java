/** unit: numbers from 0 on, ten at most, of eight kinds; NONE comes before FULL. */
public final class Promise02UnitTest {
    public static void main(String[] args) {
        Check check = new Check();
        numbersAndKinds(check);
        atFirst(check);
        refusals(check);
        check.end();
    }

    private static void numbersAndKinds(Check check) {
        GrindWorks x = new GrindWorks();
        for (int i = 0; i < 10; i++) {
            int kind = (7 - i) & 7;
            check.due("unit(" + kind + ")", x.unit(kind), i);
            check.due("about(" + i + ", 0)", x.about(i, 0), kind);
            check.due("count(0)", x.count(0), i + 1);
        }
        for (int kind = 0; kind < 8; kind++) {
            check.due("unit(" + kind + "), the eleventh", x.unit(kind), GrindWorks.FULL);
        }
        check.due("unit(8), the eleventh", x.unit(8), GrindWorks.NONE);
        check.due("unit(-1), the eleventh", x.unit(-1), GrindWorks.NONE);
    }

    private static void atFirst(Check check) {
        GrindWorks x = Works.ofEachKind();
        for (int unit = 0; unit < 8; unit++) {
            for (int cell = 0; cell < 8; cell++) {
                check.due("hold(" + unit + ", " + cell + ") at first", x.hold(unit, cell), 0);
            }
            check.due("PORT 0 of " + unit + " at first", x.about(unit, 5), GrindWorks.NONE);
            check.due("PORT 1 of " + unit + " at first", x.about(unit, 6), GrindWorks.NONE);
            check.due("whether " + unit + " is ON at first", x.about(unit, 7), unit == 0 ? 1 : 0);
        }
        for (int i = 0; i < 4; i++) {
            for (int j = 0; j < 4; j++) {
                check.due("TABLE at first, " + i + " to " + j, x.told(Works.MILL, 4 * i + j), i == j ? 10 : 0);
            }
        }
        for (int cell = 0; cell < 8; cell++) {
            check.due("RATE at first, " + cell, x.told(Works.FEED, cell), 0);
        }
        check.due("SHARE of a SCREEN at first", x.told(Works.SCREEN, 3), 5);
        check.due("SHARE of a FLOAT at first", x.told(Works.FLOAT, 1), 5);
        check.due("TIME at first", x.told(Works.TANK, 0), 1);
        check.due("MOST at first", x.told(Works.PILE, 0), 100);
    }

    private static void refusals(Check check) {
        GrindWorks x = new GrindWorks();
        check.due("unit(8)", x.unit(8), GrindWorks.NONE);
        check.due("unit(-1)", x.unit(-1), GrindWorks.NONE);
        for (int strange : Works.STRANGE) {
            check.due("unit(" + strange + ")", x.unit(strange), GrindWorks.NONE);
        }
        check.due("count(0) after refusals", x.count(0), 0);
        check.due("unit(7) after refusals", x.unit(7), 0);
    }
}
