/** Works that many tests begin with, and looks at all of an object at once. */
final class Works {
    static final int FEED = 0, JOIN = 1, MILL = 2, SCREEN = 3, FLOAT = 4, TANK = 5, PILE = 6, END = 7;

    /** What no argument of the class may be taken for: the edges of int and some numbers near the bounds. */
    static final int[] STRANGE = {Integer.MIN_VALUE, Integer.MIN_VALUE + 1, -1000000, -5, Integer.MAX_VALUE - 1, Integer.MAX_VALUE};

    private Works() {
    }

    /** One unit of each kind, so that a unit's number is its kind; nothing leads anywhere. */
    static GrindWorks ofEachKind() {
        GrindWorks x = new GrindWorks();
        for (int kind = FEED; kind <= END; kind++) {
            x.unit(kind);
        }
        return x;
    }

    /** FEED 0 leads to a unit of the kind, 1, which leads by all its ports to an END, 2. */
    static GrindWorks feeding(int kind) {
        GrindWorks x = new GrindWorks();
        x.unit(FEED);
        x.unit(kind);
        x.unit(END);
        x.lead(0, 0, 1);
        x.lead(1, 0, 2);
        x.lead(1, 1, 2);
        return x;
    }

    /** Every answer that looks at the object without changing it, in one text. */
    static String state(GrindWorks x) {
        StringBuilder all = new StringBuilder();
        for (int what = 0; what < 4; what++) {
            all.append(x.count(what)).append(' ').append(x.sum(0, what)).append(' ').append(x.sum(1, what)).append('\n');
        }
        for (int unit = 0; unit < x.count(0); unit++) {
            stateOfUnit(x, unit, all);
        }
        for (int least = 0; least <= 60; least += 5) {
            all.append(x.blend(least, 60, 40)).append(' ');
        }
        return all.toString();
    }

    private static void stateOfUnit(GrindWorks x, int unit, StringBuilder all) {
        all.append("unit ").append(unit).append(':');
        for (int what = 0; what <= 10; what++) {
            all.append(' ').append(x.about(unit, what));
        }
        for (int k = 0; k < 16; k++) {
            all.append(' ').append(x.told(unit, k));
        }
        for (int cell = 0; cell < 8; cell++) {
            all.append(' ').append(x.hold(unit, cell));
            for (int from = 0; from < x.count(0); from++) {
                all.append(' ').append(x.ledBack(unit, from, cell / 2, cell % 2));
            }
        }
        for (int what = 0; what < 3; what++) {
            all.append(' ').append(x.close(unit, what, 0)).append('/').append(x.close(unit, what, 1));
        }
        all.append('\n');
    }
}
