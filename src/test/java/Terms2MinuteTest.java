/** Terms, part 2: the order within a MINUTE, and the KINDS that give all, or what they are told, or nothing. */
public final class Terms2MinuteTest {
    public static void main(String[] args) {
        Check check = new Check();
        givesBeforeItComes(check);
        throughItsOwn(check);
        feeds(check);
        joins(check);
        ends(check);
        check.end();
    }

    private static void givesBeforeItComes(Check check) {
        check.sentence("Terms 2", "A MINUTE: first all UNITS, by numbers, GIVE from what is in their HOLDS as the MINUTE"
            + " begins; then all that was given COMES to the HOLDS it LEADS to.");
        Probe up = new Probe(check).does("unit", Works.FEED);
        Probe down = new Probe(check);
        for (int i = 1; i < 10; i++) {
            up.does("unit", Works.JOIN).does("lead", i - 1, 0, i);
            down.does("unit", Works.JOIN);
        }
        down.does("unit", Works.FEED);
        for (int i = 9; i > 0; i--) {
            down.does("lead", i, 0, i - 1);
        }
        up.does("rate", 0, 6, 5).does("run", 1).does("turn", 0, 0);
        down.does("rate", 9, 6, 5).does("run", 1).does("turn", 9, 0);
        // One step a MINUTE, whether the numbers go up or down.
        for (int step = 1; step < 10; step++) {
            for (int i = 1; i < 10; i++) {
                up.due(i == step ? 5 : 0, "hold", i, 6);
                down.due(i == step ? 5 : 0, "hold", 9 - i, 6);
            }
            up.does("run", 1);
            down.does("run", 1);
        }
        up.due(5, "about", 9, 8);
        down.due(5, "about", 0, 8);
    }

    private static void throughItsOwn(Check check) {
        check.sentence("Terms 2", "GIVE from what is in their HOLDS as the MINUTE begins; then all that was given COMES");
        Probe x = Probe.feeding(check, Works.JOIN).does("lead", 1, 0, 1).does("rate", 0, 2, 7);
        for (int minute = 1; minute <= 5; minute++) {
            x.does("run", 1).due(7 * (minute - 1), "about", 1, 9).due(7 * minute, "hold", 1, 2);
        }
    }

    private static void feeds(Check check) {
        check.sentence("Terms 2", "FEED: its RATE, if it is ON (not out of a HOLD).");
        Probe x = Probe.feeding(check, Works.END).does("rate", 0, 4, 6).does("run", 1);
        x.due(6, "about", 0, 9).due(0, "about", 0, 1).due(0, "hold", 0, 4).due(6, "hold", 1, 4).due(6, "sum", 0, 0);
        x.does("turn", 0, 0).does("run", 3).due(0, "about", 0, 9).due(6, "hold", 1, 4).due(6, "sum", 0, 0);
        x.does("turn", 0, 1).does("run", 2).due(6, "about", 0, 9).due(18, "hold", 1, 4).due(18, "sum", 0, 0);
    }

    private static void joins(Check check) {
        check.sentence("Terms 2", "JOIN: all.");
        Probe x = Probe.feeding(check, Works.JOIN);
        for (int cell = 0; cell < 8; cell++) {
            x.does("rate", 0, cell, cell == 3 ? 1000 : cell);
        }
        x.does("run", 1).due(0, "about", 1, 9).due(1025, "about", 1, 1).does("turn", 0, 0).does("run", 1);
        x.due(1025, "about", 1, 9).due(0, "about", 1, 1);
        for (int cell = 0; cell < 8; cell++) {
            x.due(cell == 3 ? 1000 : cell, "hold", 2, cell);
        }
        x.does("run", 1).due(0, "about", 1, 9).due(1025, "about", 2, 1);
    }

    private static void ends(Check check) {
        check.sentence("Terms 2", "END: nothing: what is in its HOLD stays.");
        Probe x = Probe.feeding(check, Works.END).does("rate", 0, 1, 1000).does("run", 1).does("turn", 0, 0);
        x.does("run", 60).due(1000, "hold", 1, 1).due(1000, "about", 1, 1).due(1000, "sum", 1, 1).due(0, "sum", 1, 3);
        x.due(0, "about", 1, 8).due(0, "sum", 1, 2);
    }
}
