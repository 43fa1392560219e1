/** Terms, part 2: IN, OUT, LOST, WITHIN, which always agree, and what is LED BACK. */
public final class Terms2SumsTest {
    public static void main(String[] args) {
        Check check = new Check();
        nothingYet(check);
        eachPart(check);
        alwaysTogether(check);
        theGreatest(check);
        ledBack(check);
        check.end();
    }

    private static void due(Probe x, int stuff, long... want) {
        for (int what = 0; what < 4; what++) {
            x.due(want[what], "sum", stuff, what);
        }
    }

    private static void nothingYet(Check check) {
        check.sentence("Terms 2", "IN of a STUFF: what all FEEDS gave");
        Probe x = new Probe(check);
        due(x, 0, 0, 0, 0, 0);
        due(x, 1, 0, 0, 0, 0);
        Probe y = Probe.ofEachKind(check).does("rate", 0, 0, 1000).does("rate", 0, 1, 1000);
        due(y, 0, 0, 0, 0, 0);
        y.does("turn", 0, 0).does("run", 3);
        due(y, 0, 0, 0, 0, 0);
        due(y, 1, 0, 0, 0, 0);
    }

    private static void eachPart(Check check) {
        check.sentence("Terms 2", "IN of a STUFF: what all FEEDS gave; OUT: what is in all ENDS; LOST: what was SPILT;"
            + " WITHIN: all else that is in UNITS.");
        // Two FEEDS, two ENDS, one of each of the others that keep something.
        Probe x = new Probe(check);
        int[] kinds = {Works.FEED, Works.FEED, Works.END, Works.END, Works.TANK, Works.PILE, Works.JOIN};
        for (int kind : kinds) {
            x.does("unit", kind);
        }
        x.does("rate", 0, 0, 3).does("rate", 1, 6, 20).does("rate", 1, 7, 100).does("set", 4, 0, 6).does("set", 5, 0, 0);
        // FEED 0 to one END, then the other; FEED 1 to the TANK, the PILE, the JOIN, then nowhere.
        x.does("lead", 0, 0, 2).does("lead", 1, 0, 4).does("run", 1);
        due(x, 0, 23, 3, 0, 20);
        due(x, 1, 100, 0, 0, 100);
        x.does("lead", 0, 0, 3).does("lead", 1, 0, 5).does("run", 1);
        due(x, 0, 46, 6, 0, 40);
        x.does("lead", 1, 0, 6).does("run", 1);
        due(x, 0, 69, 9, 0, 60);
        due(x, 1, 300, 0, 0, 300);
        x.does("lead", 1, 0, -1).does("run", 1);
        due(x, 0, 92, 12, 40, 40);
        due(x, 1, 400, 0, 200, 200);
        x.due(20 + 100, "about", 4, 2).due(20 + 100, "about", 5, 3).does("set", 5, 0, 5000).does("set", 4, 0, 1);
        x.does("turn", 1, 0).does("lead", 5, 0, 2).does("run", 1);
        due(x, 0, 95, 35, 60, 0);
        due(x, 1, 400, 100, 300, 0);
    }

    private static void alwaysTogether(Check check) {
        check.sentence("Terms 2", "IN is always OUT and LOST and WITHIN together.");
        for (int kind = 1; kind < 8; kind++) {
            Probe x = Probe.feeding(check, kind).does("rate", 0, 0, 37).does("rate", 0, 3, 11).does("rate", 0, 6, 5);
            x.does("table", 1, 0, 3, 2, 1).does("table", 1, 1, 1, 7, 0);
            for (int minute = 0; minute < 12; minute++) {
                x.does("run", 1).nothingGoesLost();
                x.does("set", 1, 0, 1 + minute * 5 % 6).does("lead", 1, 0, minute % 3 - 1);
                x.does("turn", 0, minute % 4 == 3 ? 0 : 1);
            }
            x.does("lead", 0, 0, -1).does("run", 7).nothingGoesLost();
        }
    }

    private static void theGreatest(Check check) {
        check.sentence("Terms 2", "IN of a STUFF: what all FEEDS gave; OUT: what is in all ENDS; LOST: what was SPILT");
        Probe lost = Probe.ofTen(check, Works.FEED);
        Probe out = new Probe(check);
        for (int i = 0; i < 9; i++) {
            out.does("unit", Works.FEED);
        }
        out.does("unit", Works.END);
        for (int i = 0; i < 10; i++) {
            out.does("lead", i, 0, 9);
            for (int cell = 0; cell < 8; cell++) {
                lost.does("rate", i, cell, 1000);
                out.does("rate", i, cell, 1000);
            }
        }
        for (int i = 0; i < 50; i++) {
            lost.does("run", 60);
            out.does("run", 60);
        }
        due(lost, 0, 120000000, 0, 120000000, 0);
        due(lost, 1, 120000000, 0, 120000000, 0);
        due(out, 0, 108000000, 108000000, 0, 0);
        lost.due(24000000, "about", 9, 8);
        out.due(216000000, "about", 9, 1).due(27000000, "hold", 9, 7).due(3000000, "ledBack", 9, 8, 3, 1);
    }

    private static void ledBack(Check check) {
        check.sentence("Terms 2", "LED BACK: of a STUFF and an END, by SIZES and UNITS: how much of this SIZE (as it came)"
            + " each UNIT gave to that END in all.");
        Probe x = Probe.feeding(check, Works.MILL).does("unit", Works.END).does("rate", 0, 1, 10);
        x.does("table", 1, 0, 0, 0, 6).does("run", 1).due(0, "ledBack", 2, 1, 3, 1).does("run", 1);
        // The MILL gave SIZE 3 what had come to it as SIZE 0.
        x.due(6, "ledBack", 2, 1, 3, 1).due(4, "ledBack", 2, 1, 0, 1).due(0, "ledBack", 2, 1, 3, 0);
        x.due(0, "ledBack", 2, 0, 0, 1).due(0, "ledBack", 2, 2, 3, 1).due(0, "ledBack", 3, 1, 3, 1);
        x.does("run", 1).due(12, "ledBack", 2, 1, 3, 1).does("lead", 1, 0, 3).does("run", 1);
        x.due(12, "ledBack", 2, 1, 3, 1).due(6, "ledBack", 3, 1, 3, 1).does("lead", 1, 0, -1).does("run", 1);
        x.due(12, "ledBack", 2, 1, 3, 1).due(6, "ledBack", 3, 1, 3, 1).does("lead", 0, 0, 3).does("run", 2);
        x.due(20, "ledBack", 3, 0, 0, 1).due(4, "ledBack", 3, 1, 0, 1);
        Probe both = Probe.feeding(check, Works.FLOAT).does("rate", 0, 4, 9).does("run", 3).due(18, "ledBack", 2, 1, 2, 0);
        both.does("lead", 1, 0, -1).does("run", 1).due(18 + 5, "ledBack", 2, 1, 2, 0);
    }
}
