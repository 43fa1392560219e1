/** Promise 18: how many LOADS there were: none, some, all that there can be. */
public final class Edges18UnloadTest {
    public static void main(String[] args) {
        Check check = new Check();
        howManyThereWere(check);
        allGo(check);
        nothingElseGoes(check);
        check.end();
    }

    private static void howManyThereWere(Check check) {
        check.sentence("Promise 18", "All LOADS go: how many there were.");
        Probe x = new Probe(check).due(0, "unload").due(0, "unload");
        for (int n = 1; n <= 10; n++) {
            for (int i = 0; i < n; i++) {
                x.does("load", 1 + i, 50, 5);
            }
            x.due(n, "unload").due(0, "count", 2).due(0, "unload");
        }
        // A LOAD that was refused is not counted.
        x.does("load", 0, 50, 5).due(0, "unload");
        for (int i = 0; i < 12; i++) {
            x.does("load", 1, 50, 5);
        }
        x.due(10, "unload");
    }

    private static void allGo(Check check) {
        check.sentence("Promise 18", "All LOADS go");
        Probe x = new Probe(check).does("load", 10, 50, 1).does("load", 20, 50, 1).does("load", 30, 50, 1).does("unload");
        x.due(GrindWorks.NONE, "blend", 1, 100, 0).due(0, "load", 40, 50, 1).due(1, "blend", 1, 100, 0);
        x.due(GrindWorks.NONE, "blend", 1, 39, 0).due(GrindWorks.NONE, "blend", 41, 1000, 0).due(1, "load", 2, 50, 1);
        x.due(3, "blend", 42, 42, 0).due(GrindWorks.NONE, "blend", 43, 1000, 0);
    }

    private static void nothingElseGoes(Check check) {
        check.sentence("Promise 18", "All LOADS go");
        Script before = Script.busyWorks().then("unload");
        new Refused(check, before).due(0, "unload");
        Probe x = Probe.feeding(check, Works.JOIN).does("rate", 0, 0, 3).does("run", 4).does("load", 1, 1, 1);
        x.does("reading", 1, 0, 8, 1).due(1, "unload").due(3, "count", 0).due(4, "count", 1).due(1, "count", 3);
        x.due(12, "sum", 0, 0).due(4, "close", 1, 0, 0).due(3, "told", 0, 0);
    }
}
