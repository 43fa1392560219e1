/** Works that many tests begin with, and the names of kinds. */
final class Works {
    static final int FEED = 0, JOIN = 1, MILL = 2, SCREEN = 3, FLOAT = 4, TANK = 5, PILE = 6, END = 7;

    /** What no argument of the class may be taken for: the edges of int and some numbers near the bounds. */
    static final int[] STRANGE = {Integer.MIN_VALUE, Integer.MIN_VALUE + 1, -1000000, -5, Integer.MAX_VALUE - 1, Integer.MAX_VALUE};

    private Works() {
    }

    /** One unit of each kind, so that a unit's number is its kind; nothing leads anywhere. */
    static GrindWorks ofEachKind() {
        GrindWorks x = new GrindWorks();
        for (int kind = FEED; kind <= END; kind++) {
            x.unit(kind);
        }
        return x;
    }

    /** FEED 0 leads to a unit of the kind, 1, which leads by all its ports to an END, 2. */
    static GrindWorks feeding(int kind) {
        GrindWorks x = new GrindWorks();
        x.unit(FEED);
        x.unit(kind);
        x.unit(END);
        x.lead(0, 0, 1);
        x.lead(1, 0, 2);
        x.lead(1, 1, 2);
        return x;
    }
}
