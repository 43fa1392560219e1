import java.math.BigInteger;

/** Terms, part 3: the edges of READINGS, and what THE CLOSING makes of them. */
public final class Terms3ReadingsTest {
    private static final int[] ONE_PORT = {Works.JOIN, Works.MILL, Works.TANK, Works.PILE};
    private static final int[] TWO_PORTS = {Works.SCREEN, Works.FLOAT};
    private static final int[] NUMBERS = {0, 1, 7, 99999, 100000};
    private static final int[] DOUBTS = {1, 2, 99, 100};

    public static void main(String[] args) {
        Check check = new Check();
        notOfFeedsAndEnds(check);
        numbers(check);
        doubts(check);
        ifItHasThat(check);
        theSumOfTheOthers(check);
        howFar(check);
        nothingWanting(check);
        fractions(check);
        check.end();
    }

    private static void notOfFeedsAndEnds(Check check) {
        check.sentence("Terms 3", "READINGS of a UNIT (not a FEED or END)");
        Probe x = Probe.ofEachKind(check);
        for (int unit = 0; unit < 8; unit++) {
            boolean isFeedOrEnd = unit == Works.FEED || unit == Works.END;
            x.due(isFeedOrEnd ? GrindWorks.STATE : 0, "reading", unit, 0, 5, 1);
            x.due(isFeedOrEnd ? GrindWorks.STATE : 0, "reading", unit, 1, 5, 1);
            x.due(isFeedOrEnd ? GrindWorks.NO : 1, "close", unit, 0, 1);
        }
    }

    private static void numbers(Check check) {
        check.sentence("Terms 3", "a number (0 .. 100000)");
        Probe x = Probe.ofEachKind(check);
        for (int what = 0; what < 3; what++) {
            x.due(GrindWorks.BAD, "reading", 3, what, -1, 1).due(GrindWorks.BAD, "reading", 3, what, 100001, 1);
            x.due(0, "close", 3, what, 0).due(0, "reading", 3, what, 100000, 1).due(0, "reading", 3, what, 0, 1);
        }
        x.does("reading", 3, 0, 100000, 1).does("reading", 3, 1, 100000, 1).due(100000, "close", 3, 0, 0);
    }

    private static void doubts(Check check) {
        check.sentence("Terms 3", "and a DOUBT (1 .. 100)");
        Probe x = Probe.ofEachKind(check);
        for (int what = 0; what < 3; what++) {
            x.due(GrindWorks.BAD, "reading", 3, what, 5, 0).due(GrindWorks.BAD, "reading", 3, what, 5, 101);
            x.due(GrindWorks.BAD, "reading", 3, what, 5, -1).due(0, "close", 3, what, 0);
            x.due(0, "reading", 3, what, 0, 100).due(0, "reading", 3, what, 0, 1);
        }
        // 204 are wanting, the DOUBTS together are 102 and then 201.
        x.does("reading", 3, 0, 204, 100).due(4, "close", 3, 0, 0).due(2, "close", 3, 1, 0).due(2, "close", 3, 2, 0);
        x.does("reading", 3, 1, 0, 100).does("reading", 3, 0, 201, 100).due(101, "close", 3, 0, 0);
        x.due(100, "close", 3, 1, 0).due(1, "close", 3, 2, 0);
    }

    private static void ifItHasThat(Check check) {
        check.sentence("Terms 3", "for what comes in, for PORT 0, for PORT 1 (if it has that).");
        Probe x = Probe.ofEachKind(check);
        for (int unit : ONE_PORT) {
            x.due(GrindWorks.NONE, "reading", unit, 2, 5, 1).due(GrindWorks.NO, "close", unit, 2, 0);
            x.due(0, "reading", unit, 0, 8, 1).due(4, "close", unit, 0, 0).due(4, "close", unit, 1, 0);
        }
        for (int unit : TWO_PORTS) {
            x.due(0, "reading", unit, 2, 6, 1).due(4, "close", unit, 2, 0).due(2, "close", unit, 0, 0);
            x.due(-2, "close", unit, 1, 0);
        }
    }

    /** Tells READINGS of all that a unit has: number and DOUBT of the first, the second, the third. */
    private static void tell(Probe x, int unit, int... numbersAndDoubts) {
        for (int i = 0; i < numbersAndDoubts.length; i += 2) {
            x.due(0, "reading", unit, i / 2, numbersAndDoubts[i], numbersAndDoubts[i + 1]);
        }
    }

    /** Each of the edges' numbers and DOUBTS against each other, a new object for each of the first ones. */
    private static void theSumOfTheOthers(Check check) {
        check.sentence("Terms 3", "THE CLOSING: the numbers with the least sum of squares of how far each is from its"
            + " READING, by its DOUBT, of which the first one is the sum of the others");
        for (int n : NUMBERS) {
            for (int doubt : DOUBTS) {
                Probe x = Probe.ofEachKind(check);
                for (int other : NUMBERS) {
                    tell(x, Works.SCREEN, n, doubt, other, 101 - doubt, 100000 - other, 1 + other % 100);
                    isSum(check, x, Works.SCREEN, 2);
                    tell(x, Works.PILE, n, doubt, other, 3);
                    isSum(check, x, Works.PILE, 1);
                }
            }
        }
    }

    private static void isSum(Check check, Probe x, int unit, int ports) {
        BigInteger[] above = new BigInteger[3];
        BigInteger[] below = new BigInteger[3];
        for (int what = 0; what < 3; what++) {
            above[what] = BigInteger.valueOf(what > ports ? 0 : x.ask("close", unit, what, 0));
            below[what] = BigInteger.valueOf(what > ports ? 1 : x.ask("close", unit, what, 1));
            check.due("common divisor of " + above[what] + " and " + below[what], above[what].gcd(below[what]).longValue(), 1);
            check.due("sign below the line of " + above[what] + " by " + below[what], below[what].signum(), 1);
        }
        BigInteger first = above[0].multiply(below[1]).multiply(below[2]);
        BigInteger second = above[1].multiply(below[0]).multiply(below[2]);
        BigInteger third = above[2].multiply(below[0]).multiply(below[1]);
        check.due("the first one less the sum of the others", first.subtract(second).subtract(third).signum(), 0);
    }

    private static void howFar(Check check) {
        check.sentence("Terms 3", "each differs from its READING by its DOUBT times what is wanting, by the sum of DOUBTS:"
            + " fractions.");
        Probe x = Probe.ofEachKind(check);
        // 10 are wanting behind, the DOUBTS together are 20: 100 less 1, 40 and 4, 50 and 5.
        tell(x, Works.FLOAT, 100, 2, 40, 8, 50, 10);
        x.due(99, "close", 4, 0, 0).due(44, "close", 4, 1, 0).due(55, "close", 4, 2, 0);
        // 10 too many behind: all the other way.
        tell(x, Works.FLOAT, 80, 2, 40, 8, 50, 10);
        x.due(81, "close", 4, 0, 0).due(36, "close", 4, 1, 0).due(45, "close", 4, 2, 0);
        tell(x, Works.TANK, 100000, 1, 0, 99);
        x.due(99000, "close", 5, 0, 0).due(99000, "close", 5, 1, 0).due(1, "close", 5, 1, 1);
        tell(x, Works.TANK, 0, 100, 100000, 100);
        x.due(50000, "close", 5, 0, 0).due(50000, "close", 5, 1, 0);
    }

    private static void nothingWanting(Check check) {
        check.sentence("Terms 3", "what is wanting, by the sum of DOUBTS");
        Probe x = Probe.ofEachKind(check);
        tell(x, Works.SCREEN, 100000, 1, 99999, 100, 1, 37);
        x.due(100000, "close", 3, 0, 0).due(99999, "close", 3, 1, 0).due(1, "close", 3, 2, 0);
        for (int what = 0; what < 3; what++) {
            x.due(1, "close", 3, what, 1);
        }
    }

    private static void fractions(Check check) {
        check.sentence("Terms 3", "fractions.");
        Probe x = Probe.ofEachKind(check);
        tell(x, Works.SCREEN, 1, 100, 0, 99, 0, 100);
        x.due(199, "close", 3, 0, 0).due(299, "close", 3, 0, 1).due(99, "close", 3, 1, 0).due(299, "close", 3, 1, 1);
        x.due(100, "close", 3, 2, 0).due(299, "close", 3, 2, 1);
    }
}
