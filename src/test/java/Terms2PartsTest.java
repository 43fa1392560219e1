/** Terms, part 2: what a SCREEN and a FLOAT give by each PORT, and the RESTS that they keep. */
public final class Terms2PartsTest {
    public static void main(String[] args) {
        Check check = new Check();
        shareOfNothingAndOfAll(check);
        cutToTheLastTenth(check);
        restAtTheEdges(check);
        restStaysWithNothing(check);
        restOfEachCell(check);
        sharesByKind(check);
        greatest(check);
        check.end();
    }

    /** Runs a MINUTE in which the unit gives n that the FEED gave in the one before. */
    private static void due(Probe x, int byPort0, int byPort1) {
        x.does("run", 1).due(byPort0, "about", 1, 9).due(byPort1, "about", 1, 10);
    }

    /** A SCREEN whose FEED gives n of SIZE 0, STUFF 0 a MINUTE; it has them for the first time. */
    private static Probe screenWith(Check check, int n, int share) {
        Probe x = Probe.feeding(check, Works.SCREEN).does("rate", 0, 0, n).does("set", 1, 0, share);
        x.does("run", 1).due(n, "hold", 1, 0).due(0, "about", 1, 9).due(0, "about", 1, 10);
        return x;
    }

    private static void shareOfNothingAndOfAll(Check check) {
        check.sentence("Terms 2", "SCREEN, FLOAT: of each cell with n: let k be n times SHARE and the cell's REST (0 at"
            + " first): PORT 0 gets k by 10, cut, the REST is what is left of that by 10 then, PORT 1 gets the others"
            + " of n.");
        Probe none = screenWith(check, 7, 0);
        Probe all = screenWith(check, 7, 10);
        for (int minute = 0; minute < 12; minute++) {
            due(none, 0, 7);
            due(all, 7, 0);
        }
        none.due(0, "about", 1, 8).due(84, "hold", 2, 0).nothingGoesLost();
    }

    private static void cutToTheLastTenth(Check check) {
        check.sentence("Terms 2", "PORT 0 gets k by 10, cut, the REST is what is left of that by 10 then");
        for (int share = 1; share < 10; share++) {
            Probe x = screenWith(check, 1, share);
            int before = 0;
            for (int minute = 1; minute <= 20; minute++) {
                int sum = minute * share / 10;
                due(x, sum - before, 1 - (sum - before));
                before = sum;
            }
        }
    }

    private static void restAtTheEdges(Check check) {
        check.sentence("Terms 2", "let k be n times SHARE and the cell's REST (0 at first)");
        Probe x = screenWith(check, 1, 9);
        due(x, 0, 1);
        // The greatest REST, 9, and the greatest SHARE: never more than n.
        x.does("set", 1, 0, 10);
        due(x, 1, 0);
        due(x, 1, 0);
        x.does("rate", 0, 0, 1000);
        due(x, 1, 0);
        due(x, 1000, 0);
        x.does("rate", 0, 0, 1);
        due(x, 1000, 0);
        // 9 and 1 are one whole, and no REST stays: then nine times nothing goes by PORT 0.
        x.does("set", 1, 0, 1);
        due(x, 1, 0);
        for (int minute = 1; minute < 10; minute++) {
            due(x, 0, 1);
        }
        due(x, 1, 0);
    }

    private static void restStaysWithNothing(Check check) {
        check.sentence("Terms 2", "the REST is what is left of that by 10 then, PORT 1 gets the others of n.");
        Probe x = screenWith(check, 1, 9).does("turn", 0, 0);
        due(x, 0, 1);
        due(x, 0, 0);
        due(x, 0, 0);
        x.does("set", 1, 0, 0).does("turn", 0, 1);
        due(x, 0, 0);
        due(x, 0, 1);
        x.does("set", 1, 0, 1);
        due(x, 1, 0);
        due(x, 0, 1);
    }

    private static void restOfEachCell(Check check) {
        check.sentence("Terms 2", "of each cell with n: let k be n times SHARE and the cell's REST");
        for (int kind = Works.SCREEN; kind <= Works.FLOAT; kind++) {
            Probe x = Probe.feeding(check, kind).does("lead", 1, 1, -1);
            for (int cell = 0; cell < 8; cell++) {
                x.does("rate", 0, cell, 1);
            }
            // Half of one in each cell: all stay with PORT 1, then all go by PORT 0.
            x.does("run", 1);
            due(x, 0, 8);
            due(x, 8, 0);
            for (int cell = 0; cell < 8; cell++) {
                x.due(1, "hold", 2, cell);
            }
            x.does("rate", 0, 5, 0);
            due(x, 0, 8);
            due(x, 7, 0);
            x.due(1, "hold", 2, 5).due(2, "hold", 2, 4).does("rate", 0, 5, 1);
            due(x, 0, 7);
            due(x, 8, 0);
        }
    }

    private static void sharesByKind(Check check) {
        check.sentence("Terms 2", "SCREEN, FLOAT: of each cell with n");
        Probe screen = Probe.feeding(check, Works.SCREEN).does("lead", 1, 1, -1);
        Probe floats = Probe.feeding(check, Works.FLOAT).does("lead", 1, 1, -1);
        for (int cell = 0; cell < 8; cell++) {
            screen.does("rate", 0, cell, 10 + cell);
            floats.does("rate", 0, cell, 10 + cell);
        }
        screen.does("set", 1, 0, 0).does("set", 1, 1, 10).does("set", 1, 2, 0).does("set", 1, 3, 10).does("run", 2);
        floats.does("set", 1, 0, 0).does("set", 1, 1, 10).does("run", 2);
        for (int cell = 0; cell < 8; cell++) {
            screen.due(cell / 2 % 2 == 1 ? 10 + cell : 0, "hold", 2, cell);
            floats.due(cell % 2 == 1 ? 10 + cell : 0, "hold", 2, cell);
        }
    }

    private static void greatest(Check check) {
        check.sentence("Terms 2", "PORT 0 gets k by 10, cut");
        Probe x = new Probe(check);
        for (int i = 0; i < 8; i++) {
            x.does("unit", Works.FEED).does("lead", i, 0, 8);
        }
        x.due(GrindWorks.NONE, "lead", 0, 0, 8).due(8, "unit", Works.MILL).due(9, "unit", Works.SCREEN);
        for (int i = 0; i < 8; i++) {
            x.does("lead", i, 0, 8);
            for (int size = 0; size < 4; size++) {
                x.does("rate", i, 2 * size, 1000);
            }
        }
        // All of 2997 MINUTES is ground to SIZE 3 in a loop and comes to the SCREEN at once.
        x.does("lead", 8, 0, 8).does("table", 8, 0, 0, 0, 10).does("table", 8, 1, 0, 10, 0).does("table", 8, 2, 10, 0, 0);
        for (int i = 0; i < 49; i++) {
            x.does("run", 60);
        }
        x.does("run", 57).does("lead", 8, 0, 9).does("set", 9, 3, 9).does("run", 1);
        int n = 8 * 4000 * 2997;
        x.due(n, "hold", 9, 6).does("run", 1).due(n / 10 * 9L, "about", 9, 9).due(n / 10, "about", 9, 10);
        x.nothingGoesLost();
    }
}
