/** sum: in, out, lost and within of each stuff, which always agree; NO for no such stuff or look. */
public final class Promise13SumTest {
    public static void main(String[] args) {
        Check check = new Check();
        parts(check);
        manyUnits(check);
        refusals(check);
        check.end();
    }

    private static void row(Check check, GrindWorks x, int stuff, int... want) {
        for (int what = 0; what < 4; what++) {
            check.due("sum(" + stuff + ", " + what + ")", x.sum(stuff, what), want[what]);
        }
    }

    private static void parts(Check check) {
        GrindWorks x = Works.ofEachKind();
        // FEED to FLOAT; of STUFF 0 nine tenths to the TANK, the rest to the PILE; the TANK to the END, the PILE spills.
        x.rate(0, 0, 10);
        x.rate(0, 6, 10);
        x.rate(0, 5, 7);
        x.lead(0, 0, 4);
        x.lead(4, 0, 5);
        x.lead(4, 1, 6);
        x.lead(5, 0, 7);
        x.set(4, 0, 9);
        x.set(4, 1, 0);
        x.set(5, 0, 2);
        x.set(6, 0, 9);
        x.run(1);
        row(check, x, 0, 20, 0, 0, 20);
        row(check, x, 1, 7, 0, 0, 7);
        x.run(2);
        // The PILE gave the LOT that came in the second minute: 2 and 7 are 9.
        row(check, x, 0, 60, 0, 2, 58);
        row(check, x, 1, 21, 0, 7, 14);
        x.run(1);
        row(check, x, 0, 80, 18, 4, 58);
        row(check, x, 1, 28, 0, 14, 14);
        x.set(6, 0, 8);
        x.run(2);
        row(check, x, 0, 120, 54, 4, 62);
        row(check, x, 1, 42, 0, 14, 28);
        x.lead(0, 0, -1);
        x.run(1);
        row(check, x, 0, 140, 72, 24, 44);
        row(check, x, 1, 49, 0, 21, 28);
    }

    private static void manyUnits(Check check) {
        GrindWorks x = new GrindWorks();
        for (int i = 0; i < 4; i++) {
            x.unit(Works.FEED);
            x.rate(i, 1, 1 + i);
        }
        x.unit(Works.END);
        x.unit(Works.END);
        x.unit(Works.JOIN);
        x.lead(0, 0, 4);
        x.lead(1, 0, 5);
        x.lead(2, 0, 6);
        x.run(2);
        row(check, x, 1, 2 * 10, 2 * 1 + 2 * 2, 2 * 4 + 3, 3);
        row(check, x, 0, 0, 0, 0, 0);
    }

    private static void refusals(Check check) {
        GrindWorks x = Works.feeding(Works.JOIN);
        x.rate(0, 0, 5);
        x.run(3);
        for (int i = 0; i < 4; i++) {
            check.due("sum(2, " + i + ")", x.sum(2, i), GrindWorks.NO);
            check.due("sum(-1, " + i + ")", x.sum(-1, i), GrindWorks.NO);
        }
        for (int stuff = 0; stuff < 2; stuff++) {
            check.due("sum(" + stuff + ", 4)", x.sum(stuff, 4), GrindWorks.NO);
            check.due("sum(" + stuff + ", -1)", x.sum(stuff, -1), GrindWorks.NO);
        }
        for (int strange : Works.STRANGE) {
            check.due("sum(" + strange + ", 0)", x.sum(strange, 0), GrindWorks.NO);
            check.due("sum(0, " + strange + ")", x.sum(0, strange), GrindWorks.NO);
        }
    }
}
