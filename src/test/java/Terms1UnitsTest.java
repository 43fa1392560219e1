/** Terms, part 1: the edges of what a UNIT is and has. */
public final class Terms1UnitsTest {
    private static final int[] PORTS = {1, 1, 1, 2, 2, 1, 1, 0};

    public static void main(String[] args) {
        Check check = new Check();
        amounts(check);
        theLastOf512Calls(check);
        numbersAndKinds(check);
        holdsAtFirst(check);
        ports(check);
        leadingToItsOwn(check);
        spilt(check);
        rates(check);
        tables(check);
        shares(check);
        times(check);
        mosts(check);
        check.end();
    }

    private static void amounts(Check check) {
        check.sentence("What it is", "SOLID is of SIZES 0 (the greatest) to 3 and STUFFS 0, 1: an AMOUNT is eight whole"
            + " numbers, cell 2 SIZE + STUFF.");
        Probe x = Probe.feeding(check, Works.END);
        for (int cell = 0; cell < 8; cell++) {
            x.due(0, "rate", 0, cell, 10 + cell);
        }
        x.due(GrindWorks.NONE, "rate", 0, 8, 1).due(GrindWorks.NONE, "rate", 0, -1, 1).does("run", 1);
        for (int size = 0; size < 4; size++) {
            for (int stuff = 0; stuff < 2; stuff++) {
                x.due(10 + 2 * size + stuff, "hold", 1, 2 * size + stuff);
                x.due(10 + 2 * size + stuff, "ledBack", 1, 0, size, stuff);
            }
        }
        x.due(GrindWorks.NONE, "hold", 1, 8).due(GrindWorks.NONE, "hold", 1, -1);
        x.due(GrindWorks.NO, "ledBack", 1, 0, 4, 0).due(GrindWorks.NO, "ledBack", 1, 0, -1, 0);
        x.due(GrindWorks.NO, "ledBack", 1, 0, 0, 2).due(GrindWorks.NO, "ledBack", 1, 0, 0, -1);
        x.due(10 + 12 + 14 + 16, "sum", 0, 1).due(11 + 13 + 15 + 17, "sum", 1, 1);
        x.due(GrindWorks.NO, "sum", 2, 1).due(GrindWorks.NO, "sum", -1, 1);
    }

    private static void theLastOf512Calls(Check check) {
        check.sentence("What it is", "An object is used for at most 512 calls after it has been made; what later calls"
            + " answer is free.");
        Probe runs = new Probe(check);
        for (int i = 1; i <= 512; i++) {
            runs.due(i, "run", 1);
        }
        Probe feeds = new Probe(check).does("unit", Works.FEED).does("rate", 0, 7, 1000);
        for (int i = 3; i < 511; i++) {
            feeds.does("run", 1 + i % 5);
        }
        long minutes = feeds.ask("count", 1);
        feeds.due(1000 * minutes, "sum", 1, 2);
    }

    private static void numbersAndKinds(Check check) {
        check.sentence("Terms 1", "UNITS are numbered from 0 on, 10 at most, of KINDS 0 FEED, 1 JOIN, 2 MILL, 3 SCREEN,"
            + " 4 FLOAT, 5 TANK, 6 PILE, 7 END.");
        for (int kind = 0; kind < 8; kind++) {
            Probe x = new Probe(check);
            for (int i = 0; i < 10; i++) {
                x.due(GrindWorks.NONE, "about", i, 0).due(i, "unit", kind).due(kind, "about", i, 0);
            }
            x.due(GrindWorks.FULL, "unit", kind).due(GrindWorks.NONE, "about", 10, 0);
        }
        new Probe(check).due(GrindWorks.NONE, "unit", -1).due(GrindWorks.NONE, "unit", 8).due(0, "unit", 0);
    }

    private static void holdsAtFirst(Check check) {
        check.sentence("Terms 1", "Each has a HOLD, an AMOUNT (nothing at first).");
        Probe x = Probe.ofEachKind(check);
        for (int unit = 0; unit < 8; unit++) {
            x.due(0, "about", unit, 1);
            for (int cell = 0; cell < 8; cell++) {
                x.due(0, "hold", unit, cell);
            }
        }
        // A unit that is made late has nothing in it either.
        x.does("rate", 0, 0, 9).does("lead", 0, 0, 7).does("run", 5).due(8, "unit", Works.END).due(0, "about", 8, 1);
    }

    private static void ports(Check check) {
        check.sentence("Terms 1", "PORTS: FEED, JOIN, MILL, TANK, PILE have one, 0; SCREEN and FLOAT two, 0 and 1;"
            + " END none.");
        for (int kind = 0; kind < 8; kind++) {
            Probe x = Probe.ofEachKind(check);
            x.does("lead", kind, -1, 7).due(GrindWorks.NONE, "lead", kind, -1, 7);
            for (int port = 0; port < 3; port++) {
                x.does("lead", kind, port, 7).due(port < PORTS[kind] ? 7 : GrindWorks.NONE, "lead", kind, port, 7);
            }
            x.due(PORTS[kind] > 0 ? 7 : GrindWorks.NONE, "about", kind, 5);
            x.due(PORTS[kind] > 1 ? 7 : GrindWorks.NONE, "about", kind, 6);
        }
    }

    private static void leadingToItsOwn(Check check) {
        check.sentence("Terms 1", "A PORT may LEAD to a UNIT that is no FEED (also to its own)");
        for (int kind = 1; kind < 7; kind++) {
            Probe x = Probe.feeding(check, kind).does("rate", 0, 0, 10).does("rate", 0, 5, 3);
            for (int port = 0; port < PORTS[kind]; port++) {
                x.due(2, "lead", 1, port, 1).due(1, "about", 1, 5 + port);
            }
            x.does("run", 6).due(60, "sum", 0, 3).due(18, "sum", 1, 3).due(0, "about", 2, 1).due(0, "about", 1, 8);
            x.nothingGoesLost();
        }
        Probe x = Probe.ofEachKind(check).due(GrindWorks.BAD, "lead", 0, 0, 0);
        for (int to = 1; to < 8; to++) {
            x.due(to == 1 ? GrindWorks.NONE : to - 1, "lead", 0, 0, to);
        }
    }

    private static void spilt(Check check) {
        check.sentence("Terms 1", "what comes out of one that does not LEAD is SPILT (counted by UNIT, as AMOUNTS).");
        Probe x = Probe.feeding(check, Works.SCREEN).does("lead", 1, 0, -1);
        x.does("rate", 0, 0, 10).does("rate", 0, 3, 4).due(0, "about", 1, 8).does("run", 1).due(0, "about", 1, 8);
        x.does("run", 1).due(7, "about", 1, 8).due(5, "sum", 0, 2).due(2, "sum", 1, 2).due(7, "about", 2, 1);
        x.does("lead", 1, 1, -1).does("run", 1).due(21, "about", 1, 8).due(15, "sum", 0, 2).due(6, "sum", 1, 2);
        x.does("lead", 0, 0, -1).does("run", 1).due(14, "about", 0, 8).due(35, "about", 1, 8).due(0, "about", 2, 8);
        x.due(35, "sum", 0, 2).due(14, "sum", 1, 2).nothingGoesLost();
        // What leads again is SPILT no more; what was SPILT stays so.
        x.does("lead", 0, 0, 1).does("lead", 1, 0, 2).does("lead", 1, 1, 2).does("run", 2);
        x.due(14, "about", 0, 8).due(35, "about", 1, 8).nothingGoesLost();
    }

    private static void rates(Check check) {
        check.sentence("Terms 1", "A FEED has a RATE, an AMOUNT (0 .. 1000 each; 0 at first), and is ON (at first) or"
            + " not.");
        Probe x = Probe.feeding(check, Works.END).due(1, "about", 0, 7).due(1, "count", 3);
        for (int cell = 0; cell < 8; cell++) {
            x.due(0, "told", 0, cell);
        }
        x.does("run", 1).due(0, "about", 0, 9);
        for (int cell = 0; cell < 8; cell++) {
            x.due(GrindWorks.BAD, "rate", 0, cell, -1).due(GrindWorks.BAD, "rate", 0, cell, 1001);
            x.due(0, "rate", 0, cell, 0).due(0, "rate", 0, cell, 1000).due(1000, "told", 0, cell);
        }
        x.does("run", 1).due(8000, "about", 0, 9).due(1000, "hold", 1, 7).due(1000, "hold", 1, 0);
        for (int cell = 0; cell < 8; cell++) {
            x.due(1000, "rate", 0, cell, 0);
        }
        x.does("run", 1).due(0, "about", 0, 9).due(1000, "hold", 1, 7);
        x.due(1, "turn", 0, 0).due(0, "about", 0, 7);
    }

    private static void tables(Check check) {
        check.sentence("Terms 1", "A MILL has a TABLE: of each SIZE i, tenths to each SIZE j not less than i, that sum"
            + " to 10 (at first 10 to itself).");
        Probe x = Probe.ofEachKind(check);
        for (int k = 0; k < 16; k++) {
            x.due(k % 5 == 0 ? 10 : 0, "told", 2, k);
        }
        x.due(0, "table", 2, 0, 0, 0, 10).due(0, "table", 2, 1, 0, 10, 0).due(0, "table", 2, 2, 9, 0, 0);
        int[] want = {0, 0, 0, 10, 0, 0, 0, 10, 0, 0, 1, 9, 0, 0, 0, 10};
        for (int k = 0; k < 16; k++) {
            x.due(want[k], "told", 2, k);
        }
        x.due(0, "table", 2, 0, 4, 3, 3).due(GrindWorks.BAD, "table", 2, 0, 4, 4, 3).due(0, "told", 2, 0);
        Probe atFirst = Probe.feeding(check, Works.MILL).does("rate", 0, 0, 1).does("rate", 0, 7, 999).does("run", 2);
        atFirst.due(1, "hold", 2, 0).due(999, "hold", 2, 7);
    }

    private static void shares(Check check) {
        check.sentence("Terms 1", "A SCREEN has a SHARE of each SIZE, a FLOAT of each STUFF (0 .. 10 tenths; 5 at first),"
            + " that goes to PORT 0.");
        Probe x = Probe.ofEachKind(check);
        for (int k = 0; k < 4; k++) {
            x.due(5, "told", 3, k).due(GrindWorks.BAD, "set", 3, k, -1).due(GrindWorks.BAD, "set", 3, k, 11);
            x.due(5, "set", 3, k, 0).due(0, "set", 3, k, 10).due(10, "told", 3, k);
        }
        x.due(GrindWorks.NONE, "set", 3, 4, 5).due(GrindWorks.NONE, "set", 3, -1, 5);
        for (int k = 0; k < 2; k++) {
            x.due(5, "told", 4, k).due(GrindWorks.BAD, "set", 4, k, -1).due(GrindWorks.BAD, "set", 4, k, 11);
            x.due(5, "set", 4, k, 0).due(0, "set", 4, k, 10).due(10, "told", 4, k);
        }
        x.due(GrindWorks.NONE, "set", 4, 2, 5).due(GrindWorks.NONE, "set", 4, -1, 5);
        for (int kind = Works.SCREEN; kind <= Works.FLOAT; kind++) {
            Probe atFirst = Probe.feeding(check, kind).does("rate", 0, 2, 20).does("run", 2);
            atFirst.due(10, "about", 1, 9).due(10, "about", 1, 10);
        }
    }

    private static void times(Check check) {
        check.sentence("Terms 1", "A TANK has TIME (1 .. 6 minutes; 1 at first).");
        Probe x = Probe.feeding(check, Works.TANK).due(1, "told", 1, 0);
        x.does("rate", 0, 0, 8).does("run", 2).due(8, "about", 1, 9).due(0, "about", 1, 2);
        x.due(GrindWorks.BAD, "set", 1, 0, 0).due(GrindWorks.BAD, "set", 1, 0, 7).due(GrindWorks.BAD, "set", 1, 0, -1);
        x.due(1, "set", 1, 0, 1).due(1, "set", 1, 0, 6).due(6, "told", 1, 0);
        x.does("run", 5).due(0, "about", 1, 9).due(40, "about", 1, 2).does("run", 1).due(8, "about", 1, 9);
    }

    private static void mosts(Check check) {
        check.sentence("Terms 1", "A PILE has MOST (0 .. 5000; 100 at first).");
        Probe x = Probe.feeding(check, Works.PILE).due(100, "told", 1, 0);
        x.due(GrindWorks.BAD, "set", 1, 0, -1).due(GrindWorks.BAD, "set", 1, 0, 5001).due(100, "told", 1, 0);
        x.does("rate", 0, 0, 100).does("run", 2).due(100, "about", 1, 9);
        x.does("rate", 0, 0, 101).does("run", 2).due(0, "about", 1, 9).due(101, "about", 1, 3);
        x.due(100, "set", 1, 0, 5000).due(5000, "set", 1, 0, 0).due(0, "told", 1, 0);
    }
}
