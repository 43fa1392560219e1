import java.util.ArrayList;
import java.util.List;

/**
 * A run of calls that can be made again on a new object: so all that is to be seen behind it can be looked at
 * without one object being asked more than 512 times.
 */
final class Script {
    private static final List<Call> LOOKS = looks();

    private final List<Call> calls = new ArrayList<>();

    Script then(String name, int... arguments) {
        calls.add(new Call(name, arguments));
        return this;
    }

    Script times(int n, String name, int... arguments) {
        for (int i = 0; i < n; i++) {
            then(name, arguments);
        }
        return this;
    }

    Script copy() {
        Script copy = new Script();
        copy.calls.addAll(calls);
        return copy;
    }

    /** What the last of the calls answers. */
    long answer() {
        GrindWorks x = new GrindWorks();
        long answer = 0;
        for (Call call : calls) {
            answer = call.on(x);
        }
        return answer;
    }

    static String look(int i) {
        return LOOKS.get(i).text();
    }

    /** What each look answers behind the calls. */
    long[] state() {
        long[] answers = new long[LOOKS.size()];
        GrindWorks x = null;
        int left = 0;
        for (int i = 0; i < answers.length; i++) {
            if (left == 0) {
                x = play();
                left = Probe.MOST_CALLS - calls.size();
            }
            answers[i] = LOOKS.get(i).on(x);
            left--;
        }
        return answers;
    }

    private GrindWorks play() {
        if (calls.size() >= Probe.MOST_CALLS) {
            throw new IllegalStateException("no look is left behind " + calls.size() + " calls");
        }
        GrindWorks x = new GrindWorks();
        for (Call call : calls) {
            call.on(x);
        }
        return x;
    }

    private static List<Call> looks() {
        List<Call> looks = new ArrayList<>();
        for (int what = 0; what < 4; what++) {
            looks.add(new Call("count", what));
            looks.add(new Call("sum", 0, what));
            looks.add(new Call("sum", 1, what));
        }
        for (int unit = 0; unit < 10; unit++) {
            looksAtUnit(looks, unit);
        }
        for (int weight = 0; weight <= 20; weight++) {
            looks.add(new Call("blend", weight, weight, 0));
            looks.add(new Call("blend", 1, 100000, 5 * weight));
        }
        return looks;
    }

    private static void looksAtUnit(List<Call> looks, int unit) {
        for (int what = 0; what <= 10; what++) {
            looks.add(new Call("about", unit, what));
        }
        for (int k = 0; k < 16; k++) {
            looks.add(new Call("told", unit, k));
        }
        for (int cell = 0; cell < 8; cell++) {
            looks.add(new Call("hold", unit, cell));
            looks.add(new Call("ledBack", Works.END, unit, cell / 2, cell % 2));
        }
        for (int what = 0; what < 3; what++) {
            looks.add(new Call("close", unit, what, 0));
            looks.add(new Call("close", unit, what, 1));
        }
    }

    /**
     * Works with something of everything in them: RESTS, SLOTS, LOTS, what is SPILT, a CONTROL that stops and
     * starts, READINGS and LOADS. A unit's number is its kind; 8 is a FEED more, 9 is not there.
     */
    static Script busyWorks() {
        Script s = new Script();
        for (int kind = Works.FEED; kind <= Works.END; kind++) {
            s.then("unit", kind);
        }
        s.then("unit", Works.FEED);
        s.then("lead", 0, 0, 2).then("lead", 2, 0, 3).then("lead", 3, 0, 2).then("lead", 3, 1, 4);
        s.then("lead", 4, 0, 5).then("lead", 4, 1, 6).then("lead", 5, 0, 7).then("lead", 6, 0, 7).then("lead", 8, 0, 1);
        s.then("rate", 0, 0, 37).then("rate", 0, 1, 13).then("rate", 0, 4, 5).then("rate", 8, 3, 9).then("rate", 8, 6, 4);
        s.then("table", 2, 0, 3, 2, 1).then("table", 2, 1, 4, 0, 0);
        s.then("set", 3, 0, 9).then("set", 3, 1, 7).then("set", 3, 3, 0).then("set", 4, 0, 3).then("set", 4, 1, 8);
        s.then("set", 5, 0, 3).then("set", 6, 0, 0).then("control", 0, 6, 130, 100);
        s.then("reading", 3, 0, 100, 2).then("reading", 3, 1, 60, 3).then("reading", 3, 2, 30, 1);
        s.then("reading", 2, 0, 17, 5).then("reading", 5, 1, 23, 4);
        s.then("load", 1, 90, 9).then("load", 2, 70, 7).then("load", 4, 50, 5).then("load", 8, 30, 3);
        s.then("run", 12).then("turn", 8, 0).then("set", 6, 0, 50).then("run", 1);
        return s;
    }

    /** The busy works with ten UNITS and ten LOADS, behind 2995 MINUTES. */
    static Script fullWorks() {
        Script s = busyWorks().then("unit", Works.JOIN);
        s.times(6, "load", 3, 40, 6);
        s.times(49, "run", 60).then("run", 31).then("set", 6, 0, 0).then("run", 10);
        return s.then("set", 6, 0, 50).then("run", 1);
    }
}
