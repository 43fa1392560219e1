/** run: what goes on in a minute, how many minutes there were; BAD before FULL. */
public final class Promise09RunTest {
    public static void main(String[] args) {
        Check check = new Check();
        minutes(check);
        givesBeforeItComes(check);
        ownLoop(check);
        tanks(check);
        tankTimeChanges(check);
        piles(check);
        pileBlocks(check);
        twentyLots(check);
        allLotsAtOnce(check);
        greatAmounts(check);
        check.end();
    }

    private static void minutes(Check check) {
        GrindWorks x = Works.feeding(Works.JOIN);
        x.rate(0, 0, 1);
        check.due("run(0)", x.run(0), GrindWorks.BAD);
        check.due("run(61)", x.run(61), GrindWorks.BAD);
        check.due("run(-1)", x.run(-1), GrindWorks.BAD);
        for (int strange : Works.STRANGE) {
            check.due("run(" + strange + ")", x.run(strange), GrindWorks.BAD);
        }
        check.due("run(1)", x.run(1), 1);
        for (int i = 1; i < 50; i++) {
            check.due("run(60)", x.run(60), 1 + 60 * i);
        }
        check.due("run(60): 3001", x.run(60), GrindWorks.FULL);
        check.due("a refused run changes nothing", x.count(1), 2941);
        check.due("a refused run changes nothing", x.sum(0, 0), 2941);
        check.due("run(59): 3000", x.run(59), 3000);
        check.due("run(1): 3001", x.run(1), GrindWorks.FULL);
        check.due("run(61): BAD first", x.run(61), GrindWorks.BAD);
        check.due("run(0): BAD first", x.run(0), GrindWorks.BAD);
        check.due("count(1)", x.count(1), 3000);
        check.due("sum(0, 0)", x.sum(0, 0), 3000);
    }

    private static void givesBeforeItComes(Check check) {
        GrindWorks x = new GrindWorks();
        x.unit(Works.FEED);
        for (int i = 1; i < 5; i++) {
            x.unit(Works.JOIN);
            x.lead(i - 1, 0, i);
        }
        x.rate(0, 3, 9);
        for (int minute = 1; minute < 5; minute++) {
            x.run(1);
            for (int i = 1; i < 5; i++) {
                check.due("minute " + minute + ": hold(" + i + ", 3)", x.hold(i, 3), i <= minute ? 9 : 0);
            }
        }
        // Two units that change what they hold with each other, the greater number first.
        GrindWorks y = new GrindWorks();
        y.unit(Works.JOIN);
        y.unit(Works.JOIN);
        y.unit(Works.FEED);
        y.lead(0, 0, 1);
        y.lead(1, 0, 0);
        y.lead(2, 0, 1);
        y.rate(2, 0, 5);
        y.run(1);
        y.turn(2, 0);
        for (int minute = 0; minute < 4; minute++) {
            check.due("hold(1, 0)", y.hold(1, 0), minute % 2 == 0 ? 5 : 0);
            check.due("hold(0, 0)", y.hold(0, 0), minute % 2 == 0 ? 0 : 5);
            y.run(1);
        }
    }

    private static void ownLoop(Check check) {
        GrindWorks x = Works.feeding(Works.JOIN);
        x.lead(1, 0, 1);
        x.rate(0, 5, 3);
        x.run(4);
        check.due("a JOIN that LEADS to its own keeps all", x.hold(1, 5), 12);
        check.due("it gave what was there as the MINUTE began", x.about(1, 9), 9);
    }

    private static void tanks(Check check) {
        for (int time = 1; time <= 6; time++) {
            GrindWorks x = Works.feeding(Works.TANK);
            x.set(1, 0, time);
            for (int minute = 1; minute <= 20; minute++) {
                x.rate(0, 1, 100 + minute);
                x.run(1);
                // What the FEED gives in a MINUTE is in the HOLD behind it, in a SLOT for TIME minutes from the next on.
                int source = minute - time;
                check.due("TIME " + time + ", minute " + minute + ": about(1, 9)", x.about(1, 9), source < 1 ? 0 : 100 + source);
                check.due("TIME " + time + ", minute " + minute + ": about(1, 1)", x.about(1, 1), 100 + minute);
                int inSlots = 0;
                for (int m = Math.max(1, source + 1); m < minute; m++) {
                    inSlots += 100 + m;
                }
                check.due("TIME " + time + ", minute " + minute + ": about(1, 2)", x.about(1, 2), inSlots);
            }
        }
    }

    private static void tankTimeChanges(Check check) {
        GrindWorks x = Works.feeding(Works.TANK);
        x.set(1, 0, 6);
        for (int minute = 1; minute <= 5; minute++) {
            x.rate(0, 0, minute);
            x.run(1);
        }
        x.turn(0, 0);
        check.due("four SLOTS", x.about(1, 2), 1 + 2 + 3 + 4);
        x.set(1, 0, 3);
        x.run(1);
        check.due("the SLOTS of 5, 4 and 3 minutes go out together", x.about(1, 9), 1 + 2 + 3);
        check.due("those of 2 and 1 stay", x.about(1, 2), 4 + 5);
        x.set(1, 0, 5);
        x.run(2);
        check.due("a greater TIME holds them longer", x.about(1, 2), 4 + 5);
        x.run(1);
        check.due("5 minutes", x.about(1, 9), 4);
        x.set(1, 0, 1);
        x.run(1);
        check.due("all that are left", x.about(1, 9), 5);
        check.due("about(1, 2)", x.about(1, 2), 0);
        check.due("hold(2, 0)", x.hold(2, 0), 15);
    }

    private static void piles(Check check) {
        GrindWorks x = Works.feeding(Works.PILE);
        x.set(1, 0, 0);
        int[] lots = {3, 4, 5, 1, 1};
        for (int lot : lots) {
            x.rate(0, 0, lot);
            x.run(1);
        }
        x.turn(0, 0);
        x.run(3);
        check.due("nothing makes no LOT", x.about(1, 4), 5);
        check.due("MOST 0 gives no LOT", x.about(1, 9), 0);
        check.due("about(1, 3)", x.about(1, 3), 14);
        x.set(1, 0, 7);
        x.run(1);
        check.due("3 and 4 are 7", x.about(1, 9), 7);
        check.due("LOTS left", x.about(1, 4), 3);
        x.set(1, 0, 5);
        x.run(1);
        check.due("5, and 1 is too much", x.about(1, 9), 5);
        x.set(1, 0, 3);
        x.run(1);
        check.due("1 and 1", x.about(1, 9), 2);
        check.due("no LOTS left", x.about(1, 4), 0);
        x.turn(0, 1);
        x.rate(0, 0, 1);
        x.rate(0, 7, 2);
        x.run(2);
        check.due("what is in the HOLD goes out as a LOT at once", x.about(1, 9), 3);
        check.due("no LOT stays", x.about(1, 4), 0);
        x.rate(0, 7, 3);
        x.run(2);
        check.due("4 is more than 3", x.about(1, 9), 0);
        check.due("one LOT stays", x.about(1, 4), 1);
        check.due("hold(2, 7)", x.hold(2, 7), 4);
    }

    private static void pileBlocks(Check check) {
        GrindWorks x = Works.feeding(Works.PILE);
        x.set(1, 0, 0);
        x.rate(0, 0, 50);
        x.run(1);
        x.rate(0, 0, 1);
        x.run(4);
        x.set(1, 0, 49);
        x.run(1);
        check.due("the first LOT is too great: none behind it goes", x.about(1, 9), 0);
        x.set(1, 0, 50);
        x.run(1);
        check.due("the first LOT", x.about(1, 9), 50);
    }

    private static void twentyLots(Check check) {
        GrindWorks x = Works.feeding(Works.PILE);
        x.set(1, 0, 0);
        x.rate(0, 0, 1);
        x.run(20);
        check.due("19 LOTS", x.about(1, 4), 19);
        x.run(1);
        check.due("20 LOTS", x.about(1, 4), 20);
        x.rate(0, 0, 2);
        x.run(3);
        check.due("20 LOTS still", x.about(1, 4), 20);
        check.due("in LOTS", x.about(1, 3), 20 + 1 + 2 + 2);
        x.turn(0, 0);
        x.set(1, 0, 19);
        x.run(1);
        check.due("what is in the HOLD goes to the last LOT, then 19 go", x.about(1, 9), 19);
        check.due("one LOT", x.about(1, 4), 1);
        check.due("the last LOT has the rest", x.about(1, 3), 1 + 1 + 2 + 2 + 2);
        x.set(1, 0, 7);
        x.run(1);
        check.due("it is one LOT", x.about(1, 9), 0);
        x.set(1, 0, 8);
        x.run(1);
        check.due("8 go", x.about(1, 9), 8);

        // The HOLD is put to the last LOT before LOTS go, so with room for one LOT the ring goes round.
        x.set(1, 0, 1);
        x.turn(0, 1);
        for (int i = 0; i < 50; i++) {
            x.rate(0, 0, 1 + i % 2);
            x.run(1);
        }
        check.due("IN is OUT and WITHIN", x.sum(0, 0), x.sum(0, 1) + x.sum(0, 3));
        check.due("a LOT of 2 blocks the ones behind it", x.about(1, 4), 20);
    }

    private static void allLotsAtOnce(Check check) {
        GrindWorks x = Works.feeding(Works.PILE);
        x.set(1, 0, 0);
        x.rate(0, 0, 2);
        x.run(20);
        x.turn(0, 0);
        x.run(1);
        check.due("20 LOTS", x.about(1, 4), 20);
        x.set(1, 0, 40);
        x.run(1);
        check.due("all 20 go in one MINUTE", x.about(1, 9), 40);
        check.due("no LOT stays", x.about(1, 4), 0);
    }

    private static void greatAmounts(Check check) {
        GrindWorks x = new GrindWorks();
        for (int i = 0; i < 8; i++) {
            x.unit(Works.FEED);
            for (int cell = 0; cell < 8; cell++) {
                x.rate(i, cell, 1000);
            }
        }
        x.unit(Works.MILL);
        x.unit(Works.FLOAT);
        for (int i = 0; i < 8; i++) {
            x.lead(i, 0, 8);
        }
        x.lead(8, 0, 8);
        x.table(8, 0, 0, 0, 10);
        x.table(8, 1, 0, 10, 0);
        x.table(8, 2, 10, 0, 0);
        for (int i = 0; i < 49; i++) {
            x.run(60);
        }
        x.run(58);
        check.due("all of 2997 minutes is of SIZE 3", x.hold(8, 6), 8L * 4000 * 2997 + 8 * 1000);
        x.lead(8, 0, 9);
        x.set(9, 0, 10);
        x.set(9, 1, 9);
        x.run(2);
        check.due("FLOAT gives all of STUFF 0 and 9 tenths of STUFF 1", x.about(9, 9),
            8L * 4000 * 2998 + 8L * 4000 * 2998 / 10 * 9);
        check.due("and the rest of it", x.about(9, 10), 8L * 4000 * 2998 / 10);
    }
}
