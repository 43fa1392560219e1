/** A new object has no units, no minutes, no loads, and each object is on its own. */
public final class Promise01NewObjectTest {
    public static void main(String[] args) {
        Check check = new Check();
        GrindWorks x = new GrindWorks();
        for (int what = 0; what < 4; what++) {
            check.due("count(" + what + ")", x.count(what), 0);
            check.due("sum(0, " + what + ")", x.sum(0, what), 0);
            check.due("sum(1, " + what + ")", x.sum(1, what), 0);
        }
        check.due("about(0, 0)", x.about(0, 0), GrindWorks.NONE);
        check.due("hold(0, 0)", x.hold(0, 0), GrindWorks.NONE);
        check.due("told(0, 0)", x.told(0, 0), GrindWorks.NONE);
        check.due("lead(0, 0, -1)", x.lead(0, 0, -1), GrindWorks.NONE);
        check.due("ledBack(0, 0, 0, 0)", x.ledBack(0, 0, 0, 0), GrindWorks.NO);
        check.due("close(0, 0, 0)", x.close(0, 0, 0), GrindWorks.NO);
        check.due("blend(0, 0, 0): the empty set", x.blend(0, 0, 0), 0);
        check.due("blend(1, 1000, 0)", x.blend(1, 1000, 0), GrindWorks.NONE);
        check.due("run(1) of no units", x.run(1), 1);

        x.unit(Works.FEED);
        x.load(1, 1, 1);
        GrindWorks y = new GrindWorks();
        for (int what = 0; what < 4; what++) {
            check.due("another object's count(" + what + ")", y.count(what), 0);
        }
        check.end();
    }
}
