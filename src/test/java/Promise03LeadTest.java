/** lead: where a port led before; which ports there are; NONE before BAD; what does not lead is spilt. */
public final class Promise03LeadTest {
    public static void main(String[] args) {
        Check check = new Check();
        leading(check);
        ports(check);
        refusals(check);
        spilling(check);
        check.end();
    }

    private static void leading(Check check) {
        GrindWorks x = Works.ofEachKind();
        check.due("lead(0, 0, 1)", x.lead(0, 0, 1), GrindWorks.NONE);
        check.due("lead(0, 0, 7)", x.lead(0, 0, 7), 1);
        check.due("lead(0, 0, 7) again", x.lead(0, 0, 7), 7);
        check.due("lead(0, 0, -1)", x.lead(0, 0, -1), 7);
        check.due("about(0, 5) behind that", x.about(0, 5), GrindWorks.NONE);
        check.due("lead(0, 0, -1) again", x.lead(0, 0, -1), GrindWorks.NONE);
        check.due("lead(1, 0, 1) to its own", x.lead(1, 0, 1), GrindWorks.NONE);
        check.due("about(1, 5)", x.about(1, 5), 1);
        check.due("lead(3, 0, 5)", x.lead(3, 0, 5), GrindWorks.NONE);
        check.due("lead(3, 1, 6)", x.lead(3, 1, 6), GrindWorks.NONE);
        check.due("about(3, 5)", x.about(3, 5), 5);
        check.due("about(3, 6)", x.about(3, 6), 6);
        check.due("lead(3, 1, 3)", x.lead(3, 1, 3), 6);
        check.due("lead(3, 0, -1)", x.lead(3, 0, -1), 5);
        check.due("about(3, 6) as it was", x.about(3, 6), 3);
    }

    private static void ports(Check check) {
        int[] ports = {1, 1, 1, 2, 2, 1, 1, 0};
        for (int unit = 0; unit < 8; unit++) {
            GrindWorks x = Works.ofEachKind();
            for (int port = 0; port < 3; port++) {
                String call = "lead(" + unit + ", " + port + ", 7)";
                check.due(call, x.lead(unit, port, 7), GrindWorks.NONE);
                check.due(call + " again", x.lead(unit, port, 7), port < ports[unit] ? 7 : GrindWorks.NONE);
            }
            check.due("lead(" + unit + ", -1, 7)", x.lead(unit, -1, 7), GrindWorks.NONE);
        }
    }

    private static void refusals(Check check) {
        GrindWorks x = Works.ofEachKind();
        x.lead(1, 0, 2);
        x.lead(4, 1, 5);
        check.due("lead(1, 0, 0) to a FEED", x.lead(1, 0, 0), GrindWorks.BAD);
        check.due("lead(0, 0, 0) of a FEED to its own", x.lead(0, 0, 0), GrindWorks.BAD);
        check.due("lead(4, 1, 0) to a FEED", x.lead(4, 1, 0), GrindWorks.BAD);
        check.due("lead(8, 0, 0): NONE first", x.lead(8, 0, 0), GrindWorks.NONE);
        check.due("lead(-1, 0, 0): NONE first", x.lead(-1, 0, 0), GrindWorks.NONE);
        check.due("lead(1, 1, 0): NONE first", x.lead(1, 1, 0), GrindWorks.NONE);
        check.due("lead(7, 0, 0): an END has no PORT", x.lead(7, 0, 0), GrindWorks.NONE);
        check.due("lead(1, 0, 8)", x.lead(1, 0, 8), GrindWorks.NONE);
        check.due("lead(1, 0, -2)", x.lead(1, 0, -2), GrindWorks.NONE);
        for (int strange : Works.STRANGE) {
            check.due("lead(" + strange + ", 0, 1)", x.lead(strange, 0, 1), GrindWorks.NONE);
            check.due("lead(1, " + strange + ", 1)", x.lead(1, strange, 1), GrindWorks.NONE);
            check.due("lead(1, 0, " + strange + ")", x.lead(1, 0, strange), GrindWorks.NONE);
        }
    }

    private static void spilling(Check check) {
        GrindWorks x = Works.feeding(Works.SCREEN);
        x.rate(0, 0, 10);
        x.lead(1, 1, -1);
        x.run(3);
        check.due("the END has what PORT 0 gave", x.hold(2, 0), 10);
        check.due("SPILT by PORT 1", x.about(1, 8), 10);
        x.lead(1, 1, 2);
        x.run(1);
        check.due("SPILT no more", x.about(1, 8), 10);
        check.due("the END has both", x.hold(2, 0), 20);
        x.lead(0, 0, -1);
        x.run(2);
        check.due("SPILT by the FEED", x.about(0, 8), 20);
        check.due("SPILT by the SCREEN as it was", x.about(1, 8), 10);
    }
}
