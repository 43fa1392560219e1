import java.math.BigInteger;
import java.util.ArrayList;
import java.util.HashMap;
import java.util.List;
import java.util.Map;

/**
 * The document written down a second time, for tests alone: lists, maps and big integers in place of
 * rows that are used again, so that a slip in the one is not likely to stand in the other too.
 */
final class PlainWorks {
    private static final int NONE = -1, BAD = -2, STATE = -3, FULL = -4;
    private static final long NO = Long.MIN_VALUE;

    private static final class Slot {
        int age = 0;
        long[] amount;
    }

    private static final class Unit {
        int kind;
        long[] hold = new long[8];
        long[] spilt = new long[8];
        Integer[] lead;
        long[] rate = new long[8];
        boolean on = true;
        int[] control = null;
        int[][] table = {{10, 0, 0, 0}, {0, 10, 0, 0}, {0, 0, 10, 0}, {0, 0, 0, 10}};
        int[] sizeShare = {5, 5, 5, 5};
        int[] stuffShare = {5, 5};
        int[] rest = new int[8];
        int time = 1;
        int most = 100;
        List<Slot> slots = new ArrayList<>();
        List<long[]> lots = new ArrayList<>();
        long[][] gave = new long[2][8];
        int[] readings = {0, 0, 0};
        int[] doubts = {1, 1, 1};

        int ports() {
            return lead.length;
        }

        long inSlots() {
            return slots.stream().mapToLong(s -> all(s.amount)).sum();
        }

        long inLots() {
            return lots.stream().mapToLong(PlainWorks::all).sum();
        }
    }

    private final List<Unit> units = new ArrayList<>();
    private final List<int[]> loads = new ArrayList<>();
    private final Map<String, Long> ledBack = new HashMap<>();
    private final long[] in = new long[2];
    private int minutes = 0;

    private static long all(long[] amount) {
        long sum = 0;
        for (long n : amount) {
            sum += n;
        }
        return sum;
    }

    private static long ofStuff(long[] amount, int stuff) {
        return amount[stuff] + amount[2 + stuff] + amount[4 + stuff] + amount[6 + stuff];
    }

    private static long[] plus(long[] a, long[] b) {
        long[] sum = new long[8];
        for (int cell = 0; cell < 8; cell++) {
            sum[cell] = a[cell] + b[cell];
        }
        return sum;
    }

    private static boolean in(long n, long least, long greatest) {
        return least <= n && n <= greatest;
    }

    private boolean isUnit(int unit) {
        return in(unit, 0, units.size() - 1);
    }

    /** One call, by its name in the public face. */
    long call(String name, int... a) {
        switch (name) {
            case "unit":
                return unit(a[0]);
            case "lead":
                return lead(a[0], a[1], a[2]);
            case "rate":
                return rate(a[0], a[1], a[2]);
            case "table":
                return table(a[0], a[1], a[2], a[3], a[4]);
            case "set":
                return set(a[0], a[1], a[2]);
            case "control":
                return control(a[0], a[1], a[2], a[3]);
            case "turn":
                return turn(a[0], a[1]);
            case "run":
                return run(a[0]);
            case "hold":
                return isUnit(a[0]) && in(a[1], 0, 7) ? units.get(a[0]).hold[a[1]] : NONE;
            case "about":
                return isUnit(a[0]) && in(a[1], 0, 10) ? about(units.get(a[0]), a[1]) : NONE;
            case "told":
                return isUnit(a[0]) ? told(units.get(a[0]), a[1]) : NONE;
            case "sum":
                return in(a[0], 0, 1) && in(a[1], 0, 3) ? sum(a[0], a[1]) : NO;
            case "ledBack":
                return ledBack(a[0], a[1], a[2], a[3]);
            case "reading":
                return reading(a[0], a[1], a[2], a[3]);
            case "close":
                return close(a[0], a[1], a[2]);
            case "load":
                return load(a[0], a[1], a[2]);
            case "unload":
                int before = loads.size();
                loads.clear();
                return before;
            case "blend":
                return blend(a[0], a[1], a[2]);
            case "count":
                return count(a[0]);
            default:
                throw new IllegalArgumentException(name);
        }
    }

    private long unit(int kind) {
        if (!in(kind, 0, 7)) {
            return NONE;
        }
        if (units.size() == 10) {
            return FULL;
        }
        Unit u = new Unit();
        u.kind = kind;
        u.lead = new Integer[kind == 7 ? 0 : kind == 3 || kind == 4 ? 2 : 1];
        units.add(u);
        return units.size() - 1;
    }

    private long lead(int unit, int port, int to) {
        if (!isUnit(unit) || !in(port, 0, units.get(unit).ports() - 1) || to != -1 && !isUnit(to)) {
            return NONE;
        }
        if (to != -1 && units.get(to).kind == 0) {
            return BAD;
        }
        Integer before = units.get(unit).lead[port];
        units.get(unit).lead[port] = to == -1 ? null : to;
        return before == null ? NONE : before;
    }

    private long rate(int unit, int cell, int n) {
        if (!isUnit(unit) || !in(cell, 0, 7)) {
            return NONE;
        }
        if (units.get(unit).kind != 0) {
            return STATE;
        }
        if (!in(n, 0, 1000)) {
            return BAD;
        }
        long before = units.get(unit).rate[cell];
        units.get(unit).rate[cell] = n;
        return before;
    }

    private long table(int unit, int i, int... to) {
        if (!isUnit(unit) || !in(i, 0, 3)) {
            return NONE;
        }
        if (units.get(unit).kind != 2) {
            return STATE;
        }
        long sum = 0;
        for (int d = 1; d <= 3; d++) {
            if (to[d - 1] < 0 || to[d - 1] > 0 && i + d > 3) {
                return BAD;
            }
            sum += to[d - 1];
        }
        if (sum > 10) {
            return BAD;
        }
        int[] row = new int[4];
        row[i] = (int) (10 - sum);
        for (int j = i + 1; j < 4; j++) {
            row[j] = to[j - i - 1];
        }
        units.get(unit).table[i] = row;
        return 0;
    }

    private long set(int unit, int k, int n) {
        if (!isUnit(unit)) {
            return NONE;
        }
        Unit u = units.get(unit);
        int before;
        switch (u.kind) {
            case 3:
            case 4:
                int[] shares = u.kind == 3 ? u.sizeShare : u.stuffShare;
                if (!in(k, 0, u.kind == 3 ? 3 : 1)) {
                    return NONE;
                }
                if (!in(n, 0, 10)) {
                    return BAD;
                }
                before = shares[k];
                shares[k] = n;
                return before;
            case 5:
                if (k != 0) {
                    return NONE;
                }
                if (!in(n, 1, 6)) {
                    return BAD;
                }
                before = u.time;
                u.time = n;
                return before;
            case 6:
                if (k != 0) {
                    return NONE;
                }
                if (!in(n, 0, 5000)) {
                    return BAD;
                }
                before = u.most;
                u.most = n;
                return before;
            default:
                return STATE;
        }
    }

    private long control(int feed, int by, int stop, int start) {
        if (!isUnit(feed) || !isUnit(by)) {
            return NONE;
        }
        if (units.get(feed).kind != 0) {
            return STATE;
        }
        if (!in(stop, 0, 100000) || !in(start, 0, 100000) || start > stop) {
            return BAD;
        }
        units.get(feed).control = new int[] {by, stop, start};
        return 0;
    }

    private long turn(int feed, int on) {
        if (!isUnit(feed)) {
            return NONE;
        }
        if (units.get(feed).kind != 0) {
            return STATE;
        }
        if (!in(on, 0, 1)) {
            return BAD;
        }
        boolean before = units.get(feed).on;
        units.get(feed).on = on == 1;
        return before ? 1 : 0;
    }

    private long run(int n) {
        if (!in(n, 1, 60)) {
            return BAD;
        }
        if (minutes + n > 3000) {
            return FULL;
        }
        for (int i = 0; i < n; i++) {
            minute();
        }
        return minutes;
    }

    private void minute() {
        minutes++;
        for (Unit u : units) {
            u.gave = give(u);
        }
        for (int i = 0; i < units.size(); i++) {
            for (int port = 0; port < units.get(i).ports(); port++) {
                come(i, port);
            }
        }
        for (Unit u : units) {
            if (u.control != null) {
                Unit by = units.get(u.control[0]);
                long level = all(by.hold) + by.inSlots() + by.inLots();
                u.on = level > u.control[1] ? false : level < u.control[2] ? true : u.on;
            }
        }
    }

    private void come(int from, int port) {
        Unit u = units.get(from);
        Integer to = u.lead[port];
        if (to == null) {
            u.spilt = plus(u.spilt, u.gave[port]);
            return;
        }
        units.get(to).hold = plus(units.get(to).hold, u.gave[port]);
        for (int cell = 0; cell < 8; cell++) {
            ledBack.merge(to + " " + from + " " + cell / 2 + " " + cell % 2, u.gave[port][cell], Long::sum);
        }
    }

    private long[][] give(Unit u) {
        long[][] gave = new long[2][8];
        long[] hold = u.hold;
        if (u.kind != 7) {
            u.hold = new long[8];
        }
        switch (u.kind) {
            case 0:
                if (u.on) {
                    gave[0] = u.rate.clone();
                    in[0] += ofStuff(u.rate, 0);
                    in[1] += ofStuff(u.rate, 1);
                }
                break;
            case 1:
                gave[0] = hold;
                break;
            case 2:
                grind(u, hold, gave[0]);
                break;
            case 3:
            case 4:
                part(u, hold, gave);
                break;
            case 5:
                gave[0] = drain(u, hold);
                break;
            case 6:
                gave[0] = unpile(u, hold);
                break;
            default:
                break;
        }
        return gave;
    }

    private static void grind(Unit u, long[] hold, long[] out) {
        for (int stuff = 0; stuff < 2; stuff++) {
            for (int i = 0; i < 4; i++) {
                long stays = hold[2 * i + stuff];
                for (int j = i + 1; j < 4; j++) {
                    long moved = hold[2 * i + stuff] * u.table[i][j] / 10;
                    out[2 * j + stuff] += moved;
                    stays -= moved;
                }
                out[2 * i + stuff] += stays;
            }
        }
    }

    private static void part(Unit u, long[] hold, long[][] out) {
        for (int size = 0; size < 4; size++) {
            for (int stuff = 0; stuff < 2; stuff++) {
                int cell = 2 * size + stuff;
                long k = hold[cell] * (u.kind == 3 ? u.sizeShare[size] : u.stuffShare[stuff]) + u.rest[cell];
                out[0][cell] = k / 10;
                out[1][cell] = hold[cell] - k / 10;
                u.rest[cell] = (int) (k % 10);
            }
        }
    }

    private static long[] drain(Unit u, long[] hold) {
        Slot slot = new Slot();
        slot.amount = hold;
        u.slots.add(slot);
        long[] out = new long[8];
        for (Slot s : new ArrayList<>(u.slots)) {
            s.age++;
            if (s.age >= u.time) {
                out = plus(out, s.amount);
                u.slots.remove(s);
            }
        }
        return out;
    }

    private static long[] unpile(Unit u, long[] hold) {
        if (all(hold) > 0) {
            if (u.lots.size() == 20) {
                u.lots.set(19, plus(u.lots.get(19), hold));
            } else {
                u.lots.add(hold);
            }
        }
        long[] out = new long[8];
        while (!u.lots.isEmpty() && all(out) + all(u.lots.get(0)) <= u.most) {
            out = plus(out, u.lots.remove(0));
        }
        return out;
    }

    private static long about(Unit u, int what) {
        long[] answers = {
            u.kind, all(u.hold), u.inSlots(), u.inLots(), u.lots.size(), led(u, 0), led(u, 1),
            u.kind == 0 && u.on ? 1 : 0, all(u.spilt), all(u.gave[0]), all(u.gave[1])};
        return answers[what];
    }

    private static long led(Unit u, int port) {
        return port < u.ports() && u.lead[port] != null ? u.lead[port] : NONE;
    }

    private static long told(Unit u, int k) {
        switch (u.kind) {
            case 0:
                return in(k, 0, 7) ? u.rate[k] : NONE;
            case 2:
                return in(k, 0, 15) ? u.table[k / 4][k % 4] : NONE;
            case 3:
                return in(k, 0, 3) ? u.sizeShare[k] : NONE;
            case 4:
                return in(k, 0, 1) ? u.stuffShare[k] : NONE;
            case 5:
                return k == 0 ? u.time : NONE;
            case 6:
                return k == 0 ? u.most : NONE;
            default:
                return NONE;
        }
    }

    private long sum(int stuff, int what) {
        long out = 0;
        long lost = 0;
        long within = 0;
        for (Unit u : units) {
            lost += ofStuff(u.spilt, stuff);
            if (u.kind == 7) {
                out += ofStuff(u.hold, stuff);
            } else {
                within += ofStuff(u.hold, stuff);
            }
            for (Slot s : u.slots) {
                within += ofStuff(s.amount, stuff);
            }
            for (long[] lot : u.lots) {
                within += ofStuff(lot, stuff);
            }
        }
        return new long[] {in[stuff], out, lost, within}[what];
    }

    private long ledBack(int end, int unit, int size, int stuff) {
        if (!isUnit(end) || units.get(end).kind != 7 || !isUnit(unit) || !in(size, 0, 3) || !in(stuff, 0, 1)) {
            return NO;
        }
        return ledBack.getOrDefault(end + " " + unit + " " + size + " " + stuff, 0L);
    }

    private long reading(int unit, int what, int n, int doubt) {
        if (!isUnit(unit) || !in(what, 0, 2)) {
            return NONE;
        }
        Unit u = units.get(unit);
        if (u.kind == 0 || u.kind == 7) {
            return STATE;
        }
        if (what == 2 && u.ports() == 1) {
            return NONE;
        }
        if (!in(n, 0, 100000) || !in(doubt, 1, 100)) {
            return BAD;
        }
        u.readings[what] = n;
        u.doubts[what] = doubt;
        return 0;
    }

    private long close(int unit, int what, int part) {
        if (!isUnit(unit) || !in(what, 0, 2) || !in(part, 0, 1)) {
            return NO;
        }
        Unit u = units.get(unit);
        if (u.kind == 0 || u.kind == 7 || what > u.ports()) {
            return NO;
        }
        boolean two = u.ports() == 2;
        long wanting = (long) u.readings[0] - u.readings[1] - (two ? u.readings[2] : 0);
        BigInteger below = BigInteger.valueOf(u.doubts[0] + u.doubts[1] + (two ? u.doubts[2] : 0));
        BigInteger change = BigInteger.valueOf(u.doubts[what]).multiply(BigInteger.valueOf(wanting));
        BigInteger above = BigInteger.valueOf(u.readings[what]).multiply(below);
        above = what == 0 ? above.subtract(change) : above.add(change);
        return (part == 0 ? above : below).divide(above.gcd(below)).longValueExact();
    }

    private long load(int weight, int good, int price) {
        if (!in(weight, 1, 1000) || !in(good, 0, 100) || !in(price, 0, 1000)) {
            return BAD;
        }
        if (loads.size() == 10) {
            return FULL;
        }
        loads.add(new int[] {weight, good, price});
        return loads.size() - 1;
    }

    private long blend(int least, int greatest, int g) {
        if (least < 0 || least > greatest || !in(g, 0, 100)) {
            return BAD;
        }
        long best = NONE;
        long bestPrice = Long.MAX_VALUE;
        for (int set = (1 << loads.size()) - 1; set >= 0; set--) {
            long weight = 0;
            long surplus = 0;
            long price = 0;
            for (int i = 0; i < loads.size(); i++) {
                if ((set >> i) % 2 == 1) {
                    weight += loads.get(i)[0];
                    surplus += (long) loads.get(i)[0] * (loads.get(i)[1] - g);
                    price += loads.get(i)[2];
                }
            }
            if (in(weight, least, greatest) && surplus >= 0 && price <= bestPrice) {
                best = set;
                bestPrice = price;
            }
        }
        return best;
    }

    private long count(int what) {
        switch (what) {
            case 0:
                return units.size();
            case 1:
                return minutes;
            case 2:
                return loads.size();
            case 3:
                return units.stream().filter(u -> u.kind == 0 && u.on).count();
            default:
                return NONE;
        }
    }
}
