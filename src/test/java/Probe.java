/**
 * A new object that is asked by the names of its calls. It counts them: the document promises nothing behind
 * the 512th, so no test may go there.
 */
final class Probe {
    static final int MOST_CALLS = 512;

    private final Check check;
    private final GrindWorks works = new GrindWorks();
    private int calls = 0;

    Probe(Check check) {
        this.check = check;
    }

    /** One unit of each kind, so that a unit's number is its kind; nothing leads anywhere. */
    static Probe ofEachKind(Check check) {
        Probe x = new Probe(check);
        for (int kind = Works.FEED; kind <= Works.END; kind++) {
            x.does("unit", kind);
        }
        return x;
    }

    /** As many units of one kind as the document takes. */
    static Probe ofTen(Check check, int kind) {
        Probe x = new Probe(check);
        for (int i = 0; i < 10; i++) {
            x.does("unit", kind);
        }
        return x;
    }

    /** FEED 0 leads to a unit of the kind, 1, which leads by all its ports to an END, 2. */
    static Probe feeding(Check check, int kind) {
        Probe x = new Probe(check);
        x.does("unit", Works.FEED).does("unit", kind).does("unit", Works.END);
        x.does("lead", 0, 0, 1).does("lead", 1, 0, 2);
        if (kind == Works.SCREEN || kind == Works.FLOAT) {
            x.does("lead", 1, 1, 2);
        }
        return x;
    }

    long ask(String name, int... arguments) {
        return ask(new Call(name, arguments));
    }

    private long ask(Call call) {
        calls++;
        if (calls > MOST_CALLS) {
            throw new IllegalStateException("a test asks one object more than 512 times: " + call.text());
        }
        return call.on(works);
    }

    /** A call that the test needs, whatever it answers. */
    Probe does(String name, int... arguments) {
        ask(name, arguments);
        return this;
    }

    Probe due(long want, String name, int... arguments) {
        Call call = new Call(name, arguments);
        check.due(call.text(), ask(call), want);
        return this;
    }

    /** IN is OUT and LOST and WITHIN together, of both stuffs. */
    Probe nothingGoesLost() {
        for (int stuff = 0; stuff < 2; stuff++) {
            long in = ask("sum", stuff, 0);
            check.due("sum(" + stuff + ", 1 .. 3) together", sumOfParts(stuff), in);
        }
        return this;
    }

    private long sumOfParts(int stuff) {
        return ask("sum", stuff, 1) + ask("sum", stuff, 2) + ask("sum", stuff, 3);
    }
}
