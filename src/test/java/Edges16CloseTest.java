/** Promise 16: fractions at their edges, and where there is none. */
public final class Edges16CloseTest {
    public static void main(String[] args) {
        Check check = new Check();
        theCommonDivisor(check);
        belowNothing(check);
        zero(check);
        greatest(check);
        noSuchUnit(check);
        feedsAndEnds(check);
        noSuchWhat(check);
        noSuchPart(check);
        lookingChangesNothing(check);
        check.end();
    }

    private static Probe screenWith(Check check, int... numbersAndDoubts) {
        Probe x = Probe.ofEachKind(check);
        for (int i = 0; i < numbersAndDoubts.length; i += 2) {
            x.due(0, "reading", Works.SCREEN, i / 2, numbersAndDoubts[i], numbersAndDoubts[i + 1]);
        }
        return x;
    }

    private static void due(Probe x, long... aboveAndBelow) {
        for (int i = 0; i < aboveAndBelow.length; i++) {
            x.due(aboveAndBelow[i], "close", Works.SCREEN, i / 2, i % 2);
        }
    }

    private static void theCommonDivisor(Check check) {
        check.sentence("Promise 16", "THE CLOSING of one: part 0 above, 1 below the line, without a common divisor");
        // All of it is one: 6 by 6, 60 by 6. Some of it: 580 by 6. None of it: 1 by 5.
        due(screenWith(check, 100, 2, 60, 3, 30, 1), 290, 3, 65, 1, 95, 3);
        due(screenWith(check, 1, 3, 0, 1, 0, 1), 2, 5, 1, 5, 1, 5);
        due(screenWith(check, 12, 4, 4, 4, 5, 4), 11, 1, 5, 1, 6, 1);
        due(screenWith(check, 4, 50, 0, 25, 0, 25), 2, 1, 1, 1, 1, 1);
        due(screenWith(check, 1, 98, 0, 1, 0, 1), 1, 50, 1, 100, 1, 100);
    }

    private static void belowNothing(Check check) {
        check.sentence("Promise 16", "below above 0");
        due(screenWith(check, 0, 1, 0, 1, 4, 1), 4, 3, -4, 3, 8, 3);
        due(screenWith(check, 0, 1, 9, 1, 0, 1), 3, 1, 6, 1, -3, 1);
        due(screenWith(check, 0, 1, 100000, 1, 0, 100), 50000, 51, 5050000, 51, -5000000, 51);
        due(screenWith(check, 0, 2, 2, 1, 0, 1), 1, 1, 3, 2, -1, 2);
    }

    private static void zero(Check check) {
        check.sentence("Promise 16", "(0 is 0 by 1).");
        due(screenWith(check), 0, 1, 0, 1, 0, 1);
        due(screenWith(check, 0, 100, 0, 100, 0, 100), 0, 1, 0, 1, 0, 1);
        // 0 that comes out of other numbers: 1 less 1, and 3 less 3.
        due(screenWith(check, 0, 1, 2, 1, 1, 1), 1, 1, 1, 1, 0, 1);
        due(screenWith(check, 6, 1, 3, 1, 12, 1), 9, 1, 0, 1, 9, 1);
        due(screenWith(check, 10, 10, 0, 10, 10, 80), 10, 1, 0, 1, 10, 1);
        Probe one = Probe.ofEachKind(check).due(0, "close", 1, 0, 0).due(1, "close", 1, 0, 1).due(1, "close", 1, 1, 1);
        one.does("reading", 1, 0, 0, 99).due(0, "close", 1, 0, 0).due(1, "close", 1, 0, 1);
    }

    private static void greatest(Check check) {
        check.sentence("Promise 16", "part 0 above, 1 below the line");
        due(screenWith(check, 100000, 100, 0, 100, 0, 99), 19900000, 299, 10000000, 299, 9900000, 299);
        due(screenWith(check, 0, 100, 100000, 100, 100000, 99), 20000000, 299, 9900000, 299, 10100000, 299);
        due(screenWith(check, 100000, 100, 100000, 100, 100000, 100), 400000, 3, 200000, 3, 200000, 3);
    }

    private static void noSuchUnit(Check check) {
        check.sentence("Promise 16", "NO.");
        Probe x = new Probe(check);
        for (int unit = 0; unit < 10; unit++) {
            x.due(GrindWorks.NO, "close", unit, 0, 1).does("unit", Works.FLOAT).due(1, "close", unit, 0, 1);
        }
        x.due(GrindWorks.NO, "close", 10, 0, 1).due(GrindWorks.NO, "close", -1, 0, 1);
    }

    private static void feedsAndEnds(Check check) {
        check.sentence("Promise 16", "NO.");
        Probe x = Probe.ofEachKind(check);
        for (int what = 0; what < 3; what++) {
            for (int part = 0; part < 2; part++) {
                x.due(GrindWorks.NO, "close", Works.FEED, what, part).due(GrindWorks.NO, "close", Works.END, what, part);
            }
        }
    }

    private static void noSuchWhat(Check check) {
        check.sentence("Promise 16", "THE CLOSING of one");
        Probe x = Probe.ofEachKind(check);
        for (int unit = 1; unit < 7; unit++) {
            boolean hasTwo = unit == Works.SCREEN || unit == Works.FLOAT;
            x.due(1, "close", unit, 0, 1).due(1, "close", unit, 1, 1).due(hasTwo ? 1 : GrindWorks.NO, "close", unit, 2, 1);
            x.due(hasTwo ? 0 : GrindWorks.NO, "close", unit, 2, 0).due(GrindWorks.NO, "close", unit, 3, 1);
            x.due(GrindWorks.NO, "close", unit, -1, 1).due(GrindWorks.NO, "close", unit, 3, 0);
            for (int strange : Works.STRANGE) {
                x.due(GrindWorks.NO, "close", unit, strange, 1);
            }
        }
    }

    private static void noSuchPart(Check check) {
        check.sentence("Promise 16", "NO.");
        Probe x = Probe.ofEachKind(check);
        for (int unit = 1; unit < 7; unit++) {
            x.due(GrindWorks.NO, "close", unit, 0, 2).due(GrindWorks.NO, "close", unit, 1, -1);
            for (int strange : Works.STRANGE) {
                x.due(GrindWorks.NO, "close", unit, 0, strange);
            }
        }
    }

    private static void lookingChangesNothing(Check check) {
        check.sentence("Promise 16", "NO.");
        new Refused(check, Script.busyWorks()).due(290, "close", 3, 0, 0).due(3, "close", 3, 0, 1).due(GrindWorks.NO, "close", 9, 0, 0)
            .due(GrindWorks.NO, "close", 3, 3, 0).due(GrindWorks.NO, "close", 3, 0, 2).due(GrindWorks.NO, "close", 0, 0, 0);
    }
}
