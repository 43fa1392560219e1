/**
 * Calls that are refused behind a run of calls: each answers as due and changes nothing, neither what is to be
 * seen at once nor what comes of it minutes later (RESTS, SLOTS, CONTROL cannot be looked at).
 */
final class Refused {
    private static final int[] MINUTES_MORE = {0, 1, 2, 5};

    private final Check check;
    private final Script before;
    private final long[][] states = new long[MINUTES_MORE.length][];

    Refused(Check check, Script before) {
        this.check = check;
        this.before = before;
        for (int i = 0; i < states.length; i++) {
            states[i] = minutesMore(before, MINUTES_MORE[i]).state();
        }
    }

    Refused due(long want, String name, int... arguments) {
        Script with = before.copy().then(name, arguments);
        String call = new Call(name, arguments).text();
        check.due(call, with.answer(), want);
        for (int i = 0; i < states.length; i++) {
            long[] state = minutesMore(with, MINUTES_MORE[i]).state();
            String behind = " " + MINUTES_MORE[i] + " minutes behind " + call + ", which changes nothing:";
            for (int look = 0; look < state.length; look++) {
                check.due(Script.look(look) + behind, state[look], states[i][look]);
            }
        }
        return this;
    }

    private static Script minutesMore(Script script, int minutes) {
        return script.copy().times(minutes, "run", 1);
    }
}
