/** told: what was told of a unit, of each kind; NONE for no such unit, no such k, or a kind that nothing is told of. */
public final class Promise12ToldTest {
    public static void main(String[] args) {
        Check check = new Check();
        GrindWorks x = Works.ofEachKind();
        for (int cell = 0; cell < 8; cell++) {
            x.rate(0, cell, 100 + cell);
        }
        x.table(2, 0, 1, 2, 3);
        x.table(2, 1, 3, 2, 0);
        x.table(2, 2, 8, 0, 0);
        for (int size = 0; size < 4; size++) {
            x.set(3, size, 6 + size);
        }
        x.set(4, 0, 1);
        x.set(4, 1, 10);
        x.set(5, 0, 4);
        x.set(6, 0, 4999);

        row(check, x, 0, 100, 101, 102, 103, 104, 105, 106, 107);
        row(check, x, 1);
        row(check, x, 2, 4, 1, 2, 3, 0, 5, 3, 2, 0, 0, 2, 8, 0, 0, 0, 10);
        row(check, x, 3, 6, 7, 8, 9);
        row(check, x, 4, 1, 10);
        row(check, x, 5, 4);
        row(check, x, 6, 4999);
        row(check, x, 7);

        check.due("told(8, 0)", x.told(8, 0), GrindWorks.NONE);
        check.due("told(-1, 0)", x.told(-1, 0), GrindWorks.NONE);
        for (int strange : Works.STRANGE) {
            check.due("told(" + strange + ", 0)", x.told(strange, 0), GrindWorks.NONE);
            check.due("told(2, " + strange + ")", x.told(2, strange), GrindWorks.NONE);
        }
        check.end();
    }

    /** The numbers told of a unit are these, and there are no others. */
    private static void row(Check check, GrindWorks x, int unit, int... want) {
        for (int k = -1; k < 18; k++) {
            int due = k >= 0 && k < want.length ? want[k] : GrindWorks.NONE;
            check.due("told(" + unit + ", " + k + ")", x.told(unit, k), due);
        }
    }
}
