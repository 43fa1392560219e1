/** unload: all loads go, and how many there were; units and minutes stay. */
public final class Promise18UnloadTest {
    public static void main(String[] args) {
        Check check = new Check();
        GrindWorks x = Works.feeding(Works.JOIN);
        x.rate(0, 0, 3);
        x.run(4);
        check.due("unload() of none", x.unload(), 0);
        x.load(10, 50, 9);
        x.load(20, 60, 8);
        x.load(30, 70, 7);
        check.due("unload() of three", x.unload(), 3);
        check.due("count(2)", x.count(2), 0);
        check.due("blend(1, 1000, 0)", x.blend(1, 1000, 0), GrindWorks.NONE);
        check.due("unload() again", x.unload(), 0);
        check.due("load(40, 10, 5): numbers from 0 on again", x.load(40, 10, 5), 0);
        check.due("blend(1, 1000, 0): the new one", x.blend(1, 1000, 0), 1);
        check.due("blend(1, 30, 0): none of the old ones", x.blend(1, 30, 0), GrindWorks.NONE);
        check.due("load(5, 90, 6)", x.load(5, 90, 6), 1);
        check.due("blend(45, 45, 0)", x.blend(45, 45, 0), 3);
        check.due("blend(1, 1000, 90)", x.blend(1, 1000, 90), 2);
        for (int i = 2; i < 10; i++) {
            x.load(1, 1, 1);
        }
        check.due("unload() of ten", x.unload(), 10);
        check.due("UNITS stay", x.count(0), 3);
        check.due("MINUTES stay", x.count(1), 4);
        check.due("what is in UNITS stays", x.sum(0, 0), 12);
        check.end();
    }
}
