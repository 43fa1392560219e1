/** load: numbers from 0 on, ten at most; BAD before FULL. */
public final class Promise17LoadTest {
    public static void main(String[] args) {
        Check check = new Check();
        GrindWorks x = new GrindWorks();
        check.due("load(0, 0, 0)", x.load(0, 0, 0), GrindWorks.BAD);
        check.due("load(-1, 0, 0)", x.load(-1, 0, 0), GrindWorks.BAD);
        check.due("load(1001, 0, 0)", x.load(1001, 0, 0), GrindWorks.BAD);
        check.due("load(1, -1, 0)", x.load(1, -1, 0), GrindWorks.BAD);
        check.due("load(1, 101, 0)", x.load(1, 101, 0), GrindWorks.BAD);
        check.due("load(1, 0, -1)", x.load(1, 0, -1), GrindWorks.BAD);
        check.due("load(1, 0, 1001)", x.load(1, 0, 1001), GrindWorks.BAD);
        for (int strange : Works.STRANGE) {
            check.due("load(" + strange + ", 0, 0)", x.load(strange, 0, 0), GrindWorks.BAD);
            check.due("load(1, " + strange + ", 0)", x.load(1, strange, 0), GrindWorks.BAD);
            check.due("load(1, 0, " + strange + ")", x.load(1, 0, strange), GrindWorks.BAD);
        }
        check.due("count(2) after refusals", x.count(2), 0);
        check.due("load(1, 0, 0)", x.load(1, 0, 0), 0);
        check.due("load(1000, 100, 1000)", x.load(1000, 100, 1000), 1);
        for (int i = 2; i < 10; i++) {
            check.due("load(7, 7, 7)", x.load(7, 7, 7), i);
            check.due("count(2)", x.count(2), i + 1);
        }
        check.due("load(7, 7, 7), the eleventh", x.load(7, 7, 7), GrindWorks.FULL);
        check.due("load(0, 7, 7): BAD first", x.load(0, 7, 7), GrindWorks.BAD);
        check.due("load(7, 101, 7): BAD first", x.load(7, 101, 7), GrindWorks.BAD);
        check.due("load(7, 7, 1001): BAD first", x.load(7, 7, 1001), GrindWorks.BAD);
        check.due("count(2)", x.count(2), 10);
        check.due("all LOADS are there", x.blend(1001 + 8 * 7, 1001 + 8 * 7, 0), 1023);
        check.due("no LOAD more", x.blend(1001 + 8 * 7 + 1, 100000, 0), GrindWorks.NONE);
        check.end();
    }
}
