import java.util.Arrays;

/**
 * Works that grind and float, minute by minute in whole numbers. What each call promises stands in
 * the document; the numbers here stay within int because at most nine feeds of 8000 a minute can
 * give for 3000 minutes, and ten times one cell of that is still below the greatest int.
 */
public final class GrindWorks {
    public static final int NONE = -1, BAD = -2, STATE = -3, FULL = -4;
    public static final long NO = Long.MIN_VALUE;

    private static final int FEED = 0, JOIN = 1, MILL = 2, SCREEN = 3, FLOAT = 4, TANK = 5, PILE = 6, END = 7;
    private static final int KINDS = 8;

    private static final int SIZES = 4, STUFFS = 2, CELLS = 8;
    private static final int TENTHS = 10;

    private static final int MOST_UNITS = 10, MOST_MINUTES = 3000, MOST_MINUTES_AT_ONCE = 60;
    private static final int MOST_LEVEL = 100000;

    private static final int[] PORTS_OF_KIND = {1, 1, 1, 2, 2, 1, 1, 0};

    // What can be told of a unit (rate, table, shares, time, most) is one row of numbers for every
    // kind, so that one look answers for all of them.
    private static final int[] NUMBERS_OF_KIND = {8, 0, 16, 4, 2, 1, 1, 0};
    private static final int[] FIRST_NUMBER_OF_KIND = {0, 0, 0, 5, 5, 1, 100, 0};
    private static final int[] LEAST_NUMBER_OF_KIND = {0, 0, 0, 0, 0, 1, 0, 0};
    private static final int[] GREATEST_NUMBER_OF_KIND = {1000, 0, 10, 10, 10, 6, 5000, 0};

    private final Unit[] units = new Unit[MOST_UNITS];
    private final Loads loads = new Loads();
    private int unitCount = 0;
    private int minutes = 0;

    public GrindWorks() {
    }

    // ---- building

    public int unit(int kind) {
        if (kind < 0 || kind >= KINDS) {
            return NONE;
        }
        if (unitCount >= MOST_UNITS) {
            return FULL;
        }
        units[unitCount] = newUnit(kind);
        unitCount++;
        return unitCount - 1;
    }

    public int lead(int unit, int port, int to) {
        Unit from = unitAt(unit);
        if (from == null || !from.hasPort(port)) {
            return NONE;
        }
        Unit target = unitAt(to);
        if (target == null && to != NONE) {
            return NONE;
        }
        if (target != null && target.kind == FEED) {
            return BAD;
        }
        int before = from.leads[port];
        from.leads[port] = to;
        return before;
    }

    public int rate(int unit, int cell, int n) {
        Unit u = unitAt(unit);
        if (u == null || !isCell(cell)) {
            return NONE;
        }
        if (u.kind != FEED) {
            return STATE;
        }
        return u.change(cell, n);
    }

    public int table(int unit, int i, int to1, int to2, int to3) {
        Unit u = unitAt(unit);
        if (u == null || !isSize(i)) {
            return NONE;
        }
        if (!(u instanceof Mill mill)) {
            return STATE;
        }
        if (!areTenths(to1, to2, to3) || !hasSizesFor(i, to1, to2, to3)) {
            return BAD;
        }
        mill.breakSize(i, to1, to2, to3);
        return 0;
    }

    public int set(int unit, int k, int n) {
        Unit u = unitAt(unit);
        if (u == null) {
            return NONE;
        }
        if (u.kind < SCREEN || u.kind > PILE) {
            return STATE;
        }
        if (!u.hasNumber(k)) {
            return NONE;
        }
        return u.change(k, n);
    }

    public int control(int feed, int by, int stop, int start) {
        Unit u = unitAt(feed);
        if (u == null || unitAt(by) == null) {
            return NONE;
        }
        if (!(u instanceof Feed f)) {
            return STATE;
        }
        if (!isLevel(stop) || !isLevel(start) || start > stop) {
            return BAD;
        }
        f.controlBy(by, stop, start);
        return 0;
    }

    public int turn(int feed, int on) {
        Unit u = unitAt(feed);
        if (u == null) {
            return NONE;
        }
        if (!(u instanceof Feed f)) {
            return STATE;
        }
        if (on != 0 && on != 1) {
            return BAD;
        }
        int before = f.on ? 1 : 0;
        f.on = on == 1;
        return before;
    }

    // ---- running

    public int run(int n) {
        if (n < 1 || n > MOST_MINUTES_AT_ONCE) {
            return BAD;
        }
        if (minutes + n > MOST_MINUTES) {
            return FULL;
        }
        for (int i = 0; i < n; i++) {
            passMinute();
        }
        minutes += n;
        return minutes;
    }

    // ---- looking

    public int hold(int unit, int cell) {
        Unit u = unitAt(unit);
        if (u == null || !isCell(cell)) {
            return NONE;
        }
        return u.held[cell];
    }

    public int about(int unit, int what) {
        Unit u = unitAt(unit);
        if (u == null) {
            return NONE;
        }
        switch (what) {
            case 0:
                return u.kind;
            case 1:
                return total(u.held);
            case 2:
                return u.inSlots();
            case 3:
                return u.inLots();
            case 4:
                return u.lotCount();
            case 5:
                return u.leadOf(0);
            case 6:
                return u.leadOf(1);
            case 7:
                return isFeedThatIsOn(u) ? 1 : 0;
            case 8:
                return total(u.spilt);
            case 9:
                return u.gaveBy(0);
            case 10:
                return u.gaveBy(1);
            default:
                return NONE;
        }
    }

    public int told(int unit, int k) {
        Unit u = unitAt(unit);
        if (u == null || !u.hasNumber(k)) {
            return NONE;
        }
        return u.numbers[k];
    }

    public long sum(int stuff, int what) {
        if (!isStuff(stuff) || what < 0 || what > 3) {
            return NO;
        }
        long sum = 0;
        for (int i = 0; i < MOST_UNITS; i++) {
            Unit u = units[i];
            if (u != null) {
                sum += shareOfSum(u, stuff, what);
            }
        }
        return sum;
    }

    public long ledBack(int end, int unit, int size, int stuff) {
        if (unitAt(unit) == null || !isSize(size) || !isStuff(stuff)) {
            return NO;
        }
        if (unitAt(end) instanceof End e) {
            return e.cameFrom(unit, STUFFS * size + stuff);
        }
        return NO;
    }

    // ---- readings

    public int reading(int unit, int what, int n, int doubt) {
        Unit u = unitAt(unit);
        if (u == null || what < 0 || what > 2) {
            return NONE;
        }
        Readings readings = u.readings;
        if (readings == null) {
            return STATE;
        }
        if (!readings.has(what)) {
            return NONE;
        }
        if (!readings.areGood(n, doubt)) {
            return BAD;
        }
        readings.put(what, n, doubt);
        return 0;
    }

    public long close(int unit, int what, int part) {
        Unit u = unitAt(unit);
        if (u == null || part < 0 || part > 1) {
            return NO;
        }
        Readings readings = u.readings;
        if (readings == null || !readings.has(what)) {
            return NO;
        }
        return readings.closing(what, part == 0);
    }

    // ---- blends

    public int load(int weight, int good, int price) {
        if (!loads.isGood(weight, good, price)) {
            return BAD;
        }
        if (loads.isFull()) {
            return FULL;
        }
        return loads.put(weight, good, price);
    }

    public int unload() {
        return loads.clear();
    }

    public int blend(int least, int greatest, int g) {
        if (least < 0 || least > greatest || g < 0 || g > 100) {
            return BAD;
        }
        return loads.choose(least, greatest, g);
    }

    public int count(int what) {
        switch (what) {
            case 0:
                return unitCount;
            case 1:
                return minutes;
            case 2:
                return loads.count;
            case 3:
                return countFeedsThatAreOn();
            default:
                return NONE;
        }
    }

    // ---- what the calls are made of

    private static Unit newUnit(int kind) {
        switch (kind) {
            case FEED:
                return new Feed();
            case JOIN:
                return new Join();
            case MILL:
                return new Mill();
            case SCREEN:
                return new Parter(SCREEN);
            case FLOAT:
                return new Parter(FLOAT);
            case TANK:
                return new Tank();
            case PILE:
                return new Pile();
            default:
                return new End();
        }
    }

    private Unit unitAt(int number) {
        return number >= 0 && number < MOST_UNITS ? units[number] : null;
    }

    private static boolean isCell(int cell) {
        return cell >= 0 && cell < CELLS;
    }

    private static boolean isSize(int size) {
        return size >= 0 && size < SIZES;
    }

    private static boolean isStuff(int stuff) {
        return stuff >= 0 && stuff < STUFFS;
    }

    private static boolean isLevel(int level) {
        return level >= 0 && level <= MOST_LEVEL;
    }

    private static boolean areTenths(int to1, int to2, int to3) {
        return to1 >= 0 && to2 >= 0 && to3 >= 0 && (long) to1 + to2 + to3 <= TENTHS;
    }

    private static boolean hasSizesFor(int i, int to1, int to2, int to3) {
        return (to1 == 0 || isSize(i + 1)) && (to2 == 0 || isSize(i + 2)) && (to3 == 0 || isSize(i + 3));
    }

    // Everything is given before anything comes, so that no unit passes on what came this minute.
    private void passMinute() {
        for (int i = 0; i < MOST_UNITS; i++) {
            Unit u = units[i];
            if (u != null) {
                u.give();
            }
        }
        for (int i = 0; i < MOST_UNITS; i++) {
            Unit u = units[i];
            if (u != null) {
                bringWhatGave(i, u);
            }
        }
        for (int i = 0; i < MOST_UNITS; i++) {
            if (units[i] instanceof Feed f) {
                controlFeed(f);
            }
        }
    }

    private void bringWhatGave(int number, Unit from) {
        for (int port = 0; port < from.leads.length; port++) {
            Unit to = unitAt(from.leads[port]);
            if (to == null) {
                add(from.given[port], from.spilt);
            } else {
                to.take(number, from.given[port]);
            }
        }
    }

    private void controlFeed(Feed f) {
        Unit by = unitAt(f.controller);
        if (by != null) {
            f.obey(total(by.held) + by.inSlots() + by.inLots());
        }
    }

    private static boolean isFeedThatIsOn(Unit u) {
        return u instanceof Feed f && f.on;
    }

    private int countFeedsThatAreOn() {
        int count = 0;
        for (int i = 0; i < MOST_UNITS; i++) {
            if (isFeedThatIsOn(units[i])) {
                count++;
            }
        }
        return count;
    }

    private static long shareOfSum(Unit u, int stuff, int what) {
        switch (what) {
            case 0:
                return u instanceof Feed f ? f.fed[stuff] : 0;
            case 1:
                return u.kind == END ? totalOfStuff(u.held, stuff) : 0;
            case 2:
                return totalOfStuff(u.spilt, stuff);
            default:
                return u.kind == END ? 0 : totalOfStuff(u.held, stuff) + u.storedOfStuff(stuff);
        }
    }

    private static int total(int[] amount) {
        int sum = 0;
        for (int i = 0; i < amount.length; i++) {
            sum += amount[i];
        }
        return sum;
    }

    private static int totalOfStuff(int[] amount, int stuff) {
        int sum = 0;
        for (int size = 0; size < SIZES; size++) {
            sum += amount[STUFFS * size + stuff];
        }
        return sum;
    }

    private static int totalOfRows(int[][] rows) {
        int sum = 0;
        for (int i = 0; i < rows.length; i++) {
            sum += total(rows[i]);
        }
        return sum;
    }

    private static int totalOfStuffInRows(int[][] rows, int stuff) {
        int sum = 0;
        for (int i = 0; i < rows.length; i++) {
            sum += totalOfStuff(rows[i], stuff);
        }
        return sum;
    }

    private static void add(int[] from, int[] into) {
        for (int cell = 0; cell < CELLS; cell++) {
            into[cell] += from[cell];
        }
    }

    private static void move(int[] from, int[] into) {
        add(from, into);
        Arrays.fill(from, 0);
    }

    private abstract static class Unit {
        final int kind;
        final int[] held = new int[CELLS];
        final int[] spilt = new int[CELLS];
        final int[] leads;
        final int[][] given;
        final int[] numbers;
        final Readings readings;

        Unit(int kind) {
            this.kind = kind;
            leads = new int[PORTS_OF_KIND[kind]];
            Arrays.fill(leads, NONE);
            given = new int[PORTS_OF_KIND[kind]][CELLS];
            numbers = new int[NUMBERS_OF_KIND[kind]];
            Arrays.fill(numbers, FIRST_NUMBER_OF_KIND[kind]);
            readings = kind == FEED || kind == END ? null : new Readings(PORTS_OF_KIND[kind]);
        }

        /** Fills the given rows anew from what is held as the minute begins. */
        abstract void give();

        void take(int from, int[] amount) {
            add(amount, held);
        }

        int inSlots() {
            return 0;
        }

        int inLots() {
            return 0;
        }

        int lotCount() {
            return 0;
        }

        int storedOfStuff(int stuff) {
            return 0;
        }

        final boolean hasPort(int port) {
            return port >= 0 && port < leads.length;
        }

        final boolean hasNumber(int k) {
            return k >= 0 && k < numbers.length;
        }

        final int change(int k, int n) {
            if (n < LEAST_NUMBER_OF_KIND[kind] || n > GREATEST_NUMBER_OF_KIND[kind]) {
                return BAD;
            }
            int before = numbers[k];
            numbers[k] = n;
            return before;
        }

        final int leadOf(int port) {
            return hasPort(port) ? leads[port] : NONE;
        }

        final int gaveBy(int port) {
            return hasPort(port) ? total(given[port]) : 0;
        }
    }

    private static final class Feed extends Unit {
        final int[] fed = new int[STUFFS];
        boolean on = true;
        int controller = NONE;
        int stopAbove = 0;
        int startBelow = 0;

        Feed() {
            super(FEED);
        }

        void give() {
            if (!on) {
                Arrays.fill(given[0], 0);
                return;
            }
            System.arraycopy(numbers, 0, given[0], 0, CELLS);
            for (int stuff = 0; stuff < STUFFS; stuff++) {
                fed[stuff] += totalOfStuff(numbers, stuff);
            }
        }

        void controlBy(int unit, int stop, int start) {
            controller = unit;
            stopAbove = stop;
            startBelow = start;
        }

        void obey(int level) {
            if (level > stopAbove) {
                on = false;
            } else if (level < startBelow) {
                on = true;
            }
        }
    }

    private static final class Join extends Unit {
        Join() {
            super(JOIN);
        }

        void give() {
            Arrays.fill(given[0], 0);
            move(held, given[0]);
        }
    }

    private static final class Mill extends Unit {
        Mill() {
            super(MILL);
            for (int size = 0; size < SIZES; size++) {
                numbers[SIZES * size + size] = TENTHS;
            }
        }

        void breakSize(int i, int to1, int to2, int to3) {
            numbers[SIZES * i + i] = TENTHS - to1 - to2 - to3;
            tellTenths(i, i + 1, to1);
            tellTenths(i, i + 2, to2);
            tellTenths(i, i + 3, to3);
        }

        private void tellTenths(int i, int j, int tenths) {
            if (isSize(i) && isSize(j)) {
                numbers[SIZES * i + j] = tenths;
            }
        }

        void give() {
            Arrays.fill(given[0], 0);
            for (int cell = 0; cell < CELLS; cell++) {
                if (held[cell] != 0) {
                    grind(cell);
                }
            }
        }

        private void grind(int cell) {
            int size = cell / STUFFS;
            int stuff = cell % STUFFS;
            int n = held[cell];
            int left = n;
            for (int j = size + 1; j < SIZES; j++) {
                int broken = n * numbers[SIZES * size + j] / TENTHS;
                given[0][STUFFS * j + stuff] += broken;
                left -= broken;
            }
            given[0][cell] += left;
            held[cell] = 0;
        }
    }

    /** A screen or a float: they differ only in whether a cell's size or its stuff has the share. */
    private static final class Parter extends Unit {
        private final int[] rests = new int[CELLS];

        Parter(int kind) {
            super(kind);
        }

        void give() {
            for (int cell = 0; cell < CELLS; cell++) {
                int n = held[cell];
                int tenths = n * shareOf(cell) + rests[cell];
                given[0][cell] = tenths / TENTHS;
                given[1][cell] = n - tenths / TENTHS;
                rests[cell] = tenths % TENTHS;
                held[cell] = 0;
            }
        }

        private int shareOf(int cell) {
            return numbers[kind == SCREEN ? cell / STUFFS : cell % STUFFS];
        }
    }

    private static final class Tank extends Unit {
        // No time is above six minutes, so the row that comes round again is always empty by then.
        private static final int SLOTS = 6;

        private final int[][] slots = new int[SLOTS][CELLS];
        private int latest = 0;

        Tank() {
            super(TANK);
        }

        void give() {
            Arrays.fill(given[0], 0);
            latest = (latest + 1) % SLOTS;
            move(held, slots[latest]);
            for (int age = numbers[0]; age <= SLOTS; age++) {
                move(slots[slotOfAge(age)], given[0]);
            }
        }

        private int slotOfAge(int age) {
            return Math.floorMod(latest - (age - 1), SLOTS);
        }

        int inSlots() {
            return totalOfRows(slots);
        }

        int storedOfStuff(int stuff) {
            return totalOfStuffInRows(slots, stuff);
        }
    }

    private static final class Pile extends Unit {
        private static final int LOTS = 20;

        // A ring: the lots that are not there hold nothing, so sums may run over all rows.
        private final int[][] lots = new int[LOTS][CELLS];
        private int first = 0;
        private int lotsThere = 0;

        Pile() {
            super(PILE);
        }

        void give() {
            Arrays.fill(given[0], 0);
            if (total(held) != 0) {
                heap();
            }
            int left = numbers[0];
            for (int i = 0; i < LOTS && lotsThere > 0; i++) {
                left -= total(lots[first]);
                if (left < 0) {
                    break;
                }
                move(lots[first], given[0]);
                first = (first + 1) % LOTS;
                lotsThere--;
            }
        }

        private void heap() {
            if (lotsThere < LOTS) {
                lotsThere++;
            }
            move(held, lots[(first + lotsThere - 1) % LOTS]);
        }

        int inLots() {
            return totalOfRows(lots);
        }

        int lotCount() {
            return lotsThere;
        }

        int storedOfStuff(int stuff) {
            return totalOfStuffInRows(lots, stuff);
        }
    }

    private static final class End extends Unit {
        private final int[][] came = new int[MOST_UNITS][CELLS];

        End() {
            super(END);
        }

        void give() {
            // What is in an end stays there.
        }

        void take(int from, int[] amount) {
            add(amount, held);
            if (from >= 0 && from < MOST_UNITS) {
                add(amount, came[from]);
            }
        }

        int cameFrom(int unit, int cell) {
            return unit >= 0 && unit < MOST_UNITS && isCell(cell) ? came[unit][cell] : 0;
        }
    }

    /** The readings of one unit: what comes in is the first, the ports follow. */
    private static final class Readings {
        private static final int MOST_READING = 100000, MOST_DOUBT = 100;
        private static final int MOST_DIVISIONS = 100;

        private final int[] numbers;
        private final int[] doubts;

        Readings(int ports) {
            numbers = new int[1 + Math.max(ports, 0)];
            doubts = new int[1 + Math.max(ports, 0)];
            Arrays.fill(doubts, 1);
        }

        boolean has(int what) {
            return what >= 0 && what < numbers.length;
        }

        boolean areGood(int n, int doubt) {
            return n >= 0 && n <= MOST_READING && doubt >= 1 && doubt <= MOST_DOUBT;
        }

        void put(int what, int n, int doubt) {
            numbers[what] = n;
            doubts[what] = doubt;
        }

        long closing(int what, boolean isAbove) {
            long below = total(doubts);
            long change = (long) doubts[what] * wanting();
            long above = numbers[what] * below + (what == 0 ? -change : change);
            long divisor = Math.max(1, commonDivisor(Math.abs(above), below));
            return (isAbove ? above : below) / divisor;
        }

        private int wanting() {
            return numbers[0] - (total(numbers) - numbers[0]);
        }

        private static long commonDivisor(long a, long b) {
            long greater = a;
            long smaller = b;
            for (int i = 0; i < MOST_DIVISIONS && smaller != 0; i++) {
                long rest = greater % smaller;
                greater = smaller;
                smaller = rest;
            }
            return greater;
        }
    }

    /** The loads, kept as the sums of each set of them, so that choosing is one pass over the sets. */
    private static final class Loads {
        private static final int MOST_LOADS = 10, SETS = 1 << MOST_LOADS;
        private static final int MOST_WEIGHT = 1000, MOST_GOOD = 100, MOST_PRICE = 1000;

        private final int[] weights = new int[SETS];
        private final int[] goods = new int[SETS];
        private final int[] prices = new int[SETS];
        private int count = 0;

        boolean isGood(int weight, int good, int price) {
            return weight >= 1 && weight <= MOST_WEIGHT && good >= 0 && good <= MOST_GOOD
                && price >= 0 && price <= MOST_PRICE;
        }

        boolean isFull() {
            return count >= MOST_LOADS;
        }

        int put(int weight, int good, int price) {
            int without = 1 << count;
            for (int set = 0; set < without && without + set < SETS; set++) {
                weights[without + set] = weights[set] + weight;
                goods[without + set] = goods[set] + good * weight;
                prices[without + set] = prices[set] + price;
            }
            count++;
            return count - 1;
        }

        int clear() {
            int before = count;
            count = 0;
            return before;
        }

        int choose(int least, int greatest, int g) {
            int chosen = NONE;
            int price = 0;
            for (int set = 0; set < 1 << count && set < SETS; set++) {
                boolean isWithin = weights[set] >= least && weights[set] <= greatest;
                if (isWithin && goods[set] >= g * weights[set] && (chosen == NONE || prices[set] < price)) {
                    chosen = set;
                    price = prices[set];
                }
            }
            return chosen;
        }
    }
}
