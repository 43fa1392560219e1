/** Terms, part 3: the edges of LOADS, and which set is CHOSEN. */
public final class Terms3BlendTest {
    public static void main(String[] args) {
        Check check = new Check();
        tenLoads(check);
        weights(check);
        goodParts(check);
        prices(check);
        within(check);
        noLessThanG(check);
        theLeastSumOfPrices(check);
        theLeastNumberAsBits(check);
        theEmptySet(check);
        check.end();
    }

    private static void tenLoads(Check check) {
        check.sentence("Terms 3", "BLEND: 10 at most LOADS");
        Probe x = new Probe(check);
        for (int i = 0; i < 10; i++) {
            x.due(i, "load", 1 << i, 50, 1).due(1 << i, "blend", 1 << i, 1 << i, 0);
        }
        x.due(GrindWorks.FULL, "load", 1, 50, 1).due(10, "count", 2).due(1023, "blend", 1023, 1023, 0);
        x.due(GrindWorks.NONE, "blend", 1024, 100000, 0);
    }

    private static void weights(Check check) {
        check.sentence("Terms 3", "each with a WEIGHT (1 .. 1000)");
        Probe x = new Probe(check).due(GrindWorks.BAD, "load", 0, 50, 1).due(GrindWorks.BAD, "load", 1001, 50, 1);
        x.due(GrindWorks.BAD, "load", -1, 50, 1).due(0, "count", 2).due(0, "load", 1, 50, 1).due(1, "load", 1000, 50, 1);
        x.due(1, "blend", 1, 1, 0).due(2, "blend", 1000, 1000, 0).due(3, "blend", 1001, 1001, 0);
        x.due(GrindWorks.NONE, "blend", 2, 999, 0);
    }

    private static void goodParts(Check check) {
        check.sentence("Terms 3", "a GOOD part in hundredths (0 .. 100)");
        Probe x = new Probe(check).due(GrindWorks.BAD, "load", 5, -1, 1).due(GrindWorks.BAD, "load", 5, 101, 1);
        x.due(0, "count", 2).due(0, "load", 5, 0, 1).due(1, "load", 5, 100, 2);
        x.due(1, "blend", 5, 5, 0).due(2, "blend", 5, 5, 1).due(2, "blend", 5, 5, 100);
    }

    private static void prices(Check check) {
        check.sentence("Terms 3", "and a PRICE (0 .. 1000).");
        Probe x = new Probe(check).due(GrindWorks.BAD, "load", 5, 50, -1).due(GrindWorks.BAD, "load", 5, 50, 1001);
        x.due(0, "count", 2).due(0, "load", 5, 50, 1000).due(1, "load", 5, 50, 999).due(2, "blend", 5, 5, 0);
        x.due(2, "load", 5, 50, 0).due(4, "blend", 5, 5, 0);
    }

    private static void within(Check check) {
        check.sentence("Terms 3", "CHOSEN for a least and a greatest weight, and a least good part g: of all sets of LOADS"
            + " of which WEIGHTS together are within");
        Probe x = new Probe(check).does("load", 10, 50, 1).does("load", 25, 50, 2);
        x.due(1, "blend", 10, 10, 0).due(GrindWorks.NONE, "blend", 11, 24, 0).due(2, "blend", 11, 25, 0);
        x.due(1, "blend", 1, 10, 0).due(GrindWorks.NONE, "blend", 1, 9, 0).due(GrindWorks.NONE, "blend", 26, 34, 0);
        x.due(3, "blend", 26, 35, 0).due(3, "blend", 35, 35, 0).due(3, "blend", 35, 36, 0);
        x.due(GrindWorks.NONE, "blend", 36, 36, 0).due(3, "blend", 35, Integer.MAX_VALUE, 0);
        x.due(GrindWorks.NONE, "blend", Integer.MAX_VALUE, Integer.MAX_VALUE, 0);
    }

    private static void noLessThanG(Check check) {
        check.sentence("Terms 3", "and GOOD parts by WEIGHTS together are no less than g times WEIGHTS together");
        Probe x = new Probe(check).does("load", 10, 40, 1).does("load", 30, 80, 1);
        // 10 times 40 and 30 times 80 are 2800, 70 times 40.
        x.due(3, "blend", 40, 40, 70).due(GrindWorks.NONE, "blend", 40, 40, 71);
        x.due(1, "blend", 10, 10, 40).due(GrindWorks.NONE, "blend", 10, 10, 41).due(2, "blend", 1, 40, 41);
        // One less is too little: 10 times 39 and 30 times 80 are 2790.
        Probe y = new Probe(check).does("load", 10, 39, 1).does("load", 30, 80, 1);
        y.due(3, "blend", 40, 40, 69).due(GrindWorks.NONE, "blend", 40, 40, 70);
        Probe greatest = new Probe(check);
        for (int i = 0; i < 10; i++) {
            greatest.does("load", 1000, i == 9 ? 99 : 100, 1000);
        }
        greatest.due(1023, "blend", 10000, 10000, 99).due(GrindWorks.NONE, "blend", 10000, 10000, 100);
        greatest.due(511, "blend", 9000, 10000, 100);
    }

    private static void theLeastSumOfPrices(Check check) {
        check.sentence("Terms 3", "that with the least sum of PRICES");
        Probe x = new Probe(check).does("load", 10, 50, 6).does("load", 10, 50, 5).does("load", 20, 50, 11);
        x.due(3, "blend", 20, 20, 0).does("load", 20, 50, 10).due(8, "blend", 20, 20, 0).due(2, "blend", 1, 100, 0);
        Probe full = new Probe(check);
        for (int i = 0; i < 10; i++) {
            full.does("load", 1, 50, 1000 - i);
        }
        full.due(512, "blend", 1, 10, 0).due(768, "blend", 2, 10, 0).due(1023 - 1, "blend", 9, 10, 0);
    }

    private static void theLeastNumberAsBits(Check check) {
        check.sentence("Terms 3", "of several the one with the least number as bits.");
        Probe x = new Probe(check).does("load", 10, 50, 4).does("load", 10, 50, 4).does("load", 20, 50, 8);
        x.due(1, "blend", 10, 10, 0).due(3, "blend", 20, 20, 0).due(5, "blend", 30, 30, 0);
        Probe free = new Probe(check);
        for (int i = 0; i < 10; i++) {
            free.does("load", 1, 50, 0);
        }
        free.due(1, "blend", 1, 10, 0).due(3, "blend", 2, 10, 0).due(511, "blend", 9, 10, 0).due(1023, "blend", 10, 10, 0);
    }

    private static void theEmptySet(Check check) {
        check.sentence("Terms 3", "of all sets of LOADS");
        Probe x = new Probe(check).due(0, "blend", 0, 0, 100).due(GrindWorks.NONE, "blend", 1, 1, 0);
        x.does("load", 5, 100, 0).due(0, "blend", 0, 5, 100).due(1, "blend", 1, 5, 100);
    }
}
