/** count: units, minutes, loads and feeds that are on; NONE for no such look. */
public final class Promise20CountTest {
    public static void main(String[] args) {
        Check check = new Check();
        GrindWorks x = new GrindWorks();
        row(check, x, 0, 0, 0, 0);
        x.unit(Works.JOIN);
        x.unit(Works.FEED);
        x.unit(Works.PILE);
        x.unit(Works.FEED);
        row(check, x, 4, 0, 0, 2);
        x.turn(1, 0);
        row(check, x, 4, 0, 0, 1);
        x.run(7);
        x.load(1, 2, 3);
        x.load(1, 2, 3);
        x.load(1, 2, 3);
        row(check, x, 4, 7, 3, 1);
        x.turn(3, 0);
        row(check, x, 4, 7, 3, 0);
        x.control(3, 2, 10, 10);
        x.run(1);
        row(check, x, 4, 8, 3, 1);
        x.unload();
        while (x.unit(Works.FEED) != GrindWorks.FULL) {
            check.due("count(2)", x.count(2), 0);
        }
        row(check, x, 10, 8, 0, 7);
        firstAndLastFeed(check);
        check.due("count(4)", x.count(4), GrindWorks.NONE);
        check.due("count(-1)", x.count(-1), GrindWorks.NONE);
        for (int strange : Works.STRANGE) {
            check.due("count(" + strange + ")", x.count(strange), GrindWorks.NONE);
        }
        check.end();
    }

    private static void firstAndLastFeed(Check check) {
        GrindWorks x = new GrindWorks();
        x.unit(Works.FEED);
        for (int i = 1; i < 9; i++) {
            x.unit(Works.END);
        }
        row(check, x, 9, 0, 0, 1);
        x.unit(Works.FEED);
        row(check, x, 10, 0, 0, 2);
        x.turn(0, 0);
        x.turn(9, 0);
        row(check, x, 10, 0, 0, 0);
    }

    private static void row(Check check, GrindWorks x, int... want) {
        for (int what = 0; what < 4; what++) {
            check.due("count(" + what + ")", x.count(what), want[what]);
        }
    }
}
