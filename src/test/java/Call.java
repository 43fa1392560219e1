import java.util.Arrays;

/** A call by its name in the public face, so that a run of calls can be told and made again. */
final class Call {
    private final String name;
    private final int[] a;

    Call(String name, int... arguments) {
        this.name = name;
        a = arguments;
    }

    String text() {
        String numbers = Arrays.toString(a);
        return name + "(" + numbers.substring(1, numbers.length() - 1) + ")";
    }

    long on(GrindWorks x) {
        switch (name + " " + a.length) {
            case "unit 1":
                return x.unit(a[0]);
            case "lead 3":
                return x.lead(a[0], a[1], a[2]);
            case "rate 3":
                return x.rate(a[0], a[1], a[2]);
            case "table 5":
                return x.table(a[0], a[1], a[2], a[3], a[4]);
            case "set 3":
                return x.set(a[0], a[1], a[2]);
            case "control 4":
                return x.control(a[0], a[1], a[2], a[3]);
            case "turn 2":
                return x.turn(a[0], a[1]);
            case "run 1":
                return x.run(a[0]);
            default:
                return look(x);
        }
    }

    private long look(GrindWorks x) {
        switch (name + " " + a.length) {
            case "hold 2":
                return x.hold(a[0], a[1]);
            case "about 2":
                return x.about(a[0], a[1]);
            case "told 2":
                return x.told(a[0], a[1]);
            case "sum 2":
                return x.sum(a[0], a[1]);
            case "ledBack 4":
                return x.ledBack(a[0], a[1], a[2], a[3]);
            default:
                return readingOrBlend(x);
        }
    }

    private long readingOrBlend(GrindWorks x) {
        switch (name + " " + a.length) {
            case "reading 4":
                return x.reading(a[0], a[1], a[2], a[3]);
            case "close 3":
                return x.close(a[0], a[1], a[2]);
            case "load 3":
                return x.load(a[0], a[1], a[2]);
            case "unload 0":
                return x.unload();
            case "blend 3":
                return x.blend(a[0], a[1], a[2]);
            case "count 1":
                return x.count(a[0]);
            default:
                throw new IllegalArgumentException("the face has no call " + text());
        }
    }
}
