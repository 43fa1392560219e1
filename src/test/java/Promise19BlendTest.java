/** blend: the set with the least price among those within the weights and good enough; NONE and BAD. */
public final class Promise19BlendTest {
    public static void main(String[] args) {
        Check check = new Check();
        choosing(check);
        ties(check);
        theEmptySet(check);
        greatest(check);
        refusals(check);
        check.end();
    }

    private static void choosing(Check check) {
        GrindWorks x = new GrindWorks();
        x.load(10, 50, 7);
        x.load(20, 30, 5);
        x.load(15, 80, 30);
        check.due("blend(20, 40, 45)", x.blend(20, 40, 45), 6);
        check.due("blend(1, 5, 0)", x.blend(1, 5, 0), GrindWorks.NONE);
        check.due("blend(1, 45, 0)", x.blend(1, 45, 0), 2);
        check.due("blend(20, 20, 30): 30 is no less than 30", x.blend(20, 20, 30), 2);
        check.due("blend(20, 20, 31)", x.blend(20, 20, 31), GrindWorks.NONE);
        check.due("blend(21, 30, 0)", x.blend(21, 30, 0), 3);
        check.due("blend(21, 29, 0)", x.blend(21, 29, 0), 5);
        check.due("blend(45, 45, 0)", x.blend(45, 45, 0), 7);
        check.due("blend(46, 1000, 0)", x.blend(46, 1000, 0), GrindWorks.NONE);
        // Good parts of all: 500, 600, 1200 by 45 is 51 and a ninth.
        check.due("blend(45, 45, 51)", x.blend(45, 45, 51), 7);
        check.due("blend(45, 45, 52)", x.blend(45, 45, 52), GrindWorks.NONE);
        check.due("blend(1, 45, 80)", x.blend(1, 45, 80), 4);
        check.due("blend(1, 45, 81)", x.blend(1, 45, 81), GrindWorks.NONE);
        check.due("blend(1, 2147483647, 50)", x.blend(1, Integer.MAX_VALUE, 50), 1);
        check.due("blend(2147483647, 2147483647, 0)", x.blend(Integer.MAX_VALUE, Integer.MAX_VALUE, 0), GrindWorks.NONE);
        check.due("blend changes nothing: count(2)", x.count(2), 3);
    }

    private static void ties(Check check) {
        GrindWorks x = new GrindWorks();
        x.load(10, 50, 8);
        x.load(10, 50, 4);
        x.load(10, 50, 4);
        x.load(20, 50, 8);
        check.due("blend(10, 10, 0): 2 before 4", x.blend(10, 10, 0), 2);
        check.due("blend(20, 20, 0): 6 before 8", x.blend(20, 20, 0), 6);
        check.due("blend(30, 30, 0): 10 and 12 cost 12, 7 costs 16", x.blend(30, 30, 0), 10);
        x.load(30, 50, 0);
        check.due("blend(30, 30, 0): 16 costs nothing", x.blend(30, 30, 0), 16);
        x.load(30, 50, 0);
        check.due("blend(1, 60, 50): 16 before 32 and 48", x.blend(1, 60, 50), 16);
        check.due("blend(31, 60, 50)", x.blend(31, 60, 50), 48);
    }

    private static void theEmptySet(Check check) {
        GrindWorks x = new GrindWorks();
        check.due("blend(0, 0, 100) of no LOADS", x.blend(0, 0, 100), 0);
        check.due("blend(1, 1, 0) of no LOADS", x.blend(1, 1, 0), GrindWorks.NONE);
        x.load(5, 100, 0);
        check.due("blend(0, 10, 100)", x.blend(0, 10, 100), 0);
        check.due("blend(1, 10, 100)", x.blend(1, 10, 100), 1);
    }

    private static void greatest(Check check) {
        GrindWorks x = new GrindWorks();
        for (int i = 0; i < 10; i++) {
            x.load(1000, 100, 1000);
        }
        check.due("blend(10000, 10000, 100)", x.blend(10000, 10000, 100), 1023);
        check.due("blend(9001, 10000, 100)", x.blend(9001, 10000, 100), 1023);
        check.due("blend(9000, 10000, 100)", x.blend(9000, 10000, 100), 511);
        check.due("blend(10001, 10001, 0)", x.blend(10001, 10001, 0), GrindWorks.NONE);
    }

    private static void refusals(Check check) {
        GrindWorks x = new GrindWorks();
        x.load(5, 100, 0);
        check.due("blend(-1, 10, 50)", x.blend(-1, 10, 50), GrindWorks.BAD);
        check.due("blend(11, 10, 50)", x.blend(11, 10, 50), GrindWorks.BAD);
        check.due("blend(0, -1, 50)", x.blend(0, -1, 50), GrindWorks.BAD);
        check.due("blend(-2, -1, 50)", x.blend(-2, -1, 50), GrindWorks.BAD);
        check.due("blend(5, 5, -1)", x.blend(5, 5, -1), GrindWorks.BAD);
        check.due("blend(5, 5, 101)", x.blend(5, 5, 101), GrindWorks.BAD);
        check.due("blend(6, 7, 101): BAD, not NONE", x.blend(6, 7, 101), GrindWorks.BAD);
        check.due("blend(5, 5, 100)", x.blend(5, 5, 100), 1);
        check.due("blend(5, 5, 0)", x.blend(5, 5, 0), 1);
        check.due("blend(-2147483648, 2147483647, 0)", x.blend(Integer.MIN_VALUE, Integer.MAX_VALUE, 0), GrindWorks.BAD);
        for (int strange : Works.STRANGE) {
            check.due("blend(0, 10, " + strange + ")", x.blend(0, 10, strange), GrindWorks.BAD);
        }
    }
}
