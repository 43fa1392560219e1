/** Terms, part 2: the LOTS of a PILE, and how many of them go. */
public final class Terms2PileTest {
    public static void main(String[] args) {
        Check check = new Check();
        nothingMakesNoLot(check);
        behindItsLots(check);
        noMoreThanMost(check);
        mostOfNothing(check);
        theGreatestMost(check);
        sumsTogether(check);
        theFirstOnesFirst(check);
        twentyLots(check);
        putToTheLastBeforeLotsGo(check);
        roundAndRound(check);
        twentyBehindSomeThatWent(check);
        check.end();
    }

    /** A PILE with these LOTS, which give nothing yet; the FEED is off, MOST is 0, nothing is in the HOLD. */
    private static Probe pileWith(Check check, int... lots) {
        Probe x = Probe.feeding(check, Works.PILE).does("set", 1, 0, 0);
        for (int n : lots) {
            x.does("rate", 0, 0, n).does("run", 1);
        }
        return x.does("turn", 0, 0).does("run", 1);
    }

    /** A MINUTE with this MOST: what the PILE gives, and how many LOTS stay. */
    private static void due(Probe x, int most, int gives, int lots) {
        x.does("set", 1, 0, most).does("run", 1).due(gives, "about", 1, 9).due(lots, "about", 1, 4);
    }

    private static void nothingMakesNoLot(Check check) {
        check.sentence("Terms 2", "PILE: what is in its HOLD becomes a LOT behind its LOTS, if it is not nothing");
        Probe empty = Probe.feeding(check, Works.PILE).does("run", 30).due(0, "about", 1, 4).due(0, "about", 1, 3);
        empty.due(0, "about", 1, 9);
        Probe x = pileWith(check, 1).due(1, "about", 1, 4).does("run", 30).due(1, "about", 1, 4).due(1, "about", 1, 3);
        x.does("rate", 0, 0, 0).does("rate", 0, 7, 1).does("turn", 0, 1).does("run", 1).does("turn", 0, 0);
        x.due(1, "about", 1, 4).due(1, "about", 1, 1).does("run", 1).due(2, "about", 1, 4).due(0, "about", 1, 1);
        x.due(2, "about", 1, 3);
    }

    private static void behindItsLots(Check check) {
        check.sentence("Terms 2", "becomes a LOT behind its LOTS");
        Probe x = Probe.feeding(check, Works.PILE).does("set", 1, 0, 0);
        for (int cell = 0; cell < 8; cell++) {
            x.does("rate", 0, cell, 5).does("run", 1).does("rate", 0, cell, 0);
        }
        x.does("set", 1, 0, 5);
        for (int cell = 0; cell < 8; cell++) {
            x.due(0, "hold", 2, cell).does("run", 1).due(5, "hold", 2, cell);
        }
        x.due(0, "about", 1, 4).does("run", 1).due(0, "about", 1, 9);
    }

    private static void noMoreThanMost(Check check) {
        check.sentence("Terms 2", "then whole LOTS, the first ones first, as long as their sums together are no more than"
            + " MOST");
        Probe x = pileWith(check, 40);
        due(x, 39, 0, 1);
        due(x, 40, 40, 0);
        due(x, 40, 0, 0);
        Probe y = pileWith(check, 40);
        due(y, 41, 40, 0);
        // The LOT of this MINUTE goes in it too.
        Probe z = Probe.feeding(check, Works.PILE).does("rate", 0, 0, 9).does("rate", 0, 5, 3).does("run", 1);
        due(z, 12, 12, 0);
        due(z, 11, 0, 1);
    }

    private static void mostOfNothing(Check check) {
        check.sentence("Terms 2", "no more than MOST");
        Probe x = pileWith(check, 1, 1);
        due(x, 0, 0, 2);
        due(x, 1, 1, 1);
        due(x, 0, 0, 1);
    }

    private static void theGreatestMost(Check check) {
        check.sentence("Terms 2", "whole LOTS, the first ones first");
        Probe x = Probe.feeding(check, Works.PILE).does("set", 1, 0, 5000);
        for (int cell = 0; cell < 5; cell++) {
            x.does("rate", 0, cell, 1000);
        }
        x.does("run", 2).due(5000, "about", 1, 9).does("rate", 0, 5, 1).does("run", 1).does("turn", 0, 0);
        x.due(5000, "about", 1, 9).does("run", 40).due(0, "about", 1, 9).due(5001, "about", 1, 3).nothingGoesLost();
    }

    private static void sumsTogether(Check check) {
        check.sentence("Terms 2", "as long as their sums together are no more than MOST");
        Probe x = pileWith(check, 60, 40, 1);
        due(x, 99, 60, 2);
        due(x, 41, 41, 0);
        Probe y = pileWith(check, 60, 40, 1);
        due(y, 100, 100, 1);
        due(y, 100, 1, 0);
        Probe z = pileWith(check, 60, 40, 1);
        due(z, 101, 101, 0);
    }

    private static void theFirstOnesFirst(Check check) {
        check.sentence("Terms 2", "the first ones first");
        Probe x = pileWith(check, 50, 1, 1);
        due(x, 49, 0, 3);
        due(x, 50, 50, 2);
        due(x, 1, 1, 1);
        Probe y = pileWith(check, 1, 50, 1);
        due(y, 50, 1, 2);
        due(y, 49, 0, 2);
        due(y, 51, 51, 0);
    }

    private static int[] ones(int n) {
        int[] ones = new int[n];
        java.util.Arrays.fill(ones, 1);
        return ones;
    }

    private static void twentyLots(Check check) {
        check.sentence("Terms 2", "with 20 LOTS already it is put to the last one.");
        pileWith(check, ones(19)).due(19, "about", 1, 4);
        Probe x = pileWith(check, ones(20)).due(20, "about", 1, 4);
        due(x, 18, 18, 2);
        due(x, 1, 1, 1);
        due(x, 1, 1, 0);
        Probe y = pileWith(check, ones(21)).due(20, "about", 1, 4).due(21, "about", 1, 3);
        due(y, 19, 19, 1);
        due(y, 1, 0, 1);
        due(y, 2, 2, 0);
        Probe z = pileWith(check, ones(60)).due(20, "about", 1, 4).due(60, "about", 1, 3);
        due(z, 59, 19, 1);
        due(z, 40, 0, 1);
        due(z, 41, 41, 0);
        // Nothing in the HOLD is put to no LOT; all 20 go in one MINUTE.
        Probe all = pileWith(check, ones(20)).does("run", 5).due(20, "about", 1, 3);
        due(all, 20, 20, 0);
    }

    private static void putToTheLastBeforeLotsGo(Check check) {
        check.sentence("Terms 2", "with 20 LOTS already it is put to the last one.");
        Probe x = pileWith(check, ones(20)).does("turn", 0, 1).does("run", 1).does("turn", 0, 0).due(1, "about", 1, 1);
        due(x, 1, 1, 19);
        due(x, 18, 18, 1);
        due(x, 1, 0, 1);
        // With 19 it is a LOT of its own, even though one goes in the same MINUTE.
        Probe y = pileWith(check, ones(19)).does("turn", 0, 1).does("run", 1).does("turn", 0, 0);
        due(y, 1, 1, 19);
        due(y, 19, 19, 0);
    }

    private static void roundAndRound(Check check) {
        check.sentence("Terms 2", "PILE: what is in its HOLD becomes a LOT behind its LOTS");
        // Each LOT is more than half of MOST, so one goes each MINUTE, in the order in which they came.
        Probe x = pileWith(check, 3, 4, 5, 3, 4).does("set", 1, 0, 5).does("turn", 0, 1).does("rate", 0, 0, 5);
        x.does("run", 1).due(3, "about", 1, 9);
        for (int i = 6; i < 60; i++) {
            x.does("rate", 0, 0, 3 + i % 3).does("run", 1).due(3 + (i - 5) % 3, "about", 1, 9).due(4, "about", 1, 4);
        }
        x.does("turn", 0, 0).does("run", 60).due(0, "about", 1, 4).due(0, "sum", 0, 3).nothingGoesLost();
    }

    private static void twentyBehindSomeThatWent(Check check) {
        check.sentence("Terms 2", "with 20 LOTS already it is put to the last one.");
        for (int gone = 1; gone < 20; gone++) {
            Probe x = pileWith(check, ones(gone));
            due(x, gone, gone, 0);
            x.does("set", 1, 0, 0).does("rate", 0, 0, 1).does("turn", 0, 1).does("run", 20).due(19, "about", 1, 4);
            x.does("rate", 0, 0, 2).does("run", 2).due(20, "about", 1, 4).does("turn", 0, 0).does("run", 1);
            // Nineteen LOTS of 1, and one of 1 to which 2 and 2 were put.
            x.due(20, "about", 1, 4).due(24, "about", 1, 3);
            due(x, 23, 19, 1);
            due(x, 4, 0, 1);
            due(x, 5, 5, 0);
        }
    }
}
