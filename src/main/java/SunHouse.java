import java.util.Arrays;

/** Sun to current: cells, rows, fields and boxes, as ../shared/DOC.md promises them. */
public final class SunHouse {

    private static final int NO_SUCH = -1;
    private static final int CANNOT = -3;
    private static final int NONE = -4;
    private static final int NOTHING_HELD = -11;
    private static final int OTHER_KIND = -12;
    private static final int NO_PLACE = -13;
    private static final int SIZE_BELOW_0 = -14;
    private static final int NO_FAILURE = -15;

    private static final int CELL = 0;
    private static final int ROW = 1;
    private static final int FIELD = 2;
    private static final int BOX = 3;

    private static final int MOST_PARTS = 40;
    private static final int MOST_POINTS = 6;
    private static final int MOST_IN_ROW = 8;
    private static final int MOST_IN_FIELD = 6;

    private static final int LIGHT = 0;
    private static final int CAUSES = 4;
    private static final int SETS_OF_CAUSES = 16;
    private static final int[] MOST_OF_CAUSE = {100, 50, 50, 40};
    /** In how many of the 24 orders a set of 0, 1, 2 or 3 others is just what goes ahead of a CAUSE. */
    private static final int[] ORDERS_BEHIND_SET = {6, 2, 2, 6};

    private static final int CURRENTS = 100;
    private static final int TOP = 500;
    private static final int HIGHEST_PUSH = 999;
    private static final int MOST_BACKWARD = 20;

    private static final int HOURS = 12;
    private static final int DAYS = 10;
    private static final int WALLS = 10;
    private static final int MOST_HEIGHT = 30;
    private static final int MOST_LENGTH = 30;
    private static final int WIDE = 20;
    private static final int HIGH = 12;
    private static final int[] EASTWARD = {1, 1, 0, -1, -1, -1, 0, 1};
    private static final int[] NORTHWARD = {0, 1, 1, 1, 0, -1, -1, -1};

    private static final int SHELVES = 8;
    private static final int MOST_ELEMENTS = 120;
    private static final int ANY_SORT = -1;
    private static final int BYTES = 0;
    private static final int SHORTS = 1;
    private static final int INTS = 2;
    private static final int LEAST_BYTE = -128;
    private static final int GREATEST_BYTE = 127;
    private static final int LEAST_SHORT = -32768;
    private static final int LEAST_INT = -2147483648;

    private static final int MOST_WASH_DAYS = 30;
    private static final int MOST_DIRT = 50;
    private static final int MOST_ROOM = 30;
    private static final int MOST_PARTED = 8;
    private static final int MOST_FAULTS = 1 + 2 * MOST_PARTS;
    private static final int LOOKS = 121;
    private static final int MOST_MEASURED = 40;

    private final House house;
    private final House pictured;
    private boolean hasPicture;
    private final Shelf[] shelves;
    private final Reader reader;
    private final Bench bench;
    private final Seeker trial;
    private final Washing washing;
    private final Diagnosis diagnosis;
    private final int[] shades;

    public SunHouse() {
        House made = new House();
        house = made;
        pictured = new House();
        hasPicture = false;
        shelves = new Shelf[SHELVES];
        for (int d = 0; d < SHELVES; d++) {
            shelves[d] = new Shelf();
        }
        reader = new Reader();
        bench = new Bench(made);
        trial = new Seeker();
        washing = new Washing();
        diagnosis = new Diagnosis();
        shades = new int[WIDE * HIGH];
    }

    // ---- texts, parts

    public int text(int d) {
        Shelf shelf = shelfAt(d);
        int refusal = refusalOfRow(shelf, BYTES);
        if (refusal != 0 || shelf == null) {
            return refusal;
        }
        return reader.read(shelf, house);
    }

    public int about(int part, int what) {
        if (!isPart(part) || what < 0 || what > 4) {
            return NO_SUCH;
        }
        Parts parts = house.parts;
        if (what == 0) {
            return at(parts.kind, part);
        }
        if (what == 3) {
            return at(parts.told, part);
        }
        if (what == 4) {
            int whole = at(parts.whole, part);
            return whole < 0 ? NONE : whole;
        }
        bench.spread(part);
        return what == 1 ? bench.cells : bench.diodes();
    }

    public int point(int part, int i, int what) {
        if (!isPart(part) || i < 0 || what < 0 || what > 1) {
            return NO_SUCH;
        }
        if (!isOfKind(part, CELL)) {
            return CANNOT;
        }
        if (i >= at(house.parts.told, part)) {
            return NO_SUCH;
        }
        bench.spread(part);
        bench.drawPoints(0);
        return at(what == 0 ? bench.pushNow : bench.currentNow, i);
    }

    public int set(int part, int what, int v) {
        if (!isPart(part) || what < 0 || what >= CAUSES || v < 0 || v > at(MOST_OF_CAUSE, what)) {
            return NO_SUCH;
        }
        if (!isOfKind(part, CELL)) {
            return CANNOT;
        }
        int was = at(house.cells.setting, part * CAUSES + what);
        lay(house.cells.setting, part * CAUSES + what, v);
        return was;
    }

    public int dead(int part, boolean is) {
        if (!isPart(part)) {
            return NO_SUCH;
        }
        if (!isOfKind(part, CELL)) {
            return CANNOT;
        }
        int now = is ? 1 : 0;
        boolean changes = at(house.cells.gone, part) != now;
        lay(house.cells.gone, part, now);
        return changes ? 1 : 0;
    }

    // ---- curves

    public long push(int part, int c) throws IllegalArgumentException {
        if (!isPart(part) || c < 0 || c > 999) {
            throw new IllegalArgumentException("no such part, or no such current");
        }
        bench.spread(part);
        return bench.pushAt(c);
    }

    public int current(int part, int u) {
        if (!isPart(part) || u < -50 || u > HIGHEST_PUSH) {
            return NO_SUCH;
        }
        return currentOf(part, u);
    }

    public int best(int part, int what) {
        if (!isPart(part) || what < 0 || what > 2) {
            return NO_SUCH;
        }
        bench.spread(part);
        bench.findBest();
        return what == 0 ? bench.bestPower : what == 1 ? bench.bestPush : bench.currentAt(bench.bestPush);
    }

    public int hump(int part, int i) {
        if (!isPart(part) || i < -1) {
            return NO_SUCH;
        }
        bench.spread(part);
        bench.findBest();
        return bench.humpAt(i);
    }

    public int held(int part, int c, int what) {
        if (!isPart(part) || c < 0 || c >= CURRENTS || what < 0 || what > 2) {
            return NO_SUCH;
        }
        if (!isOfKind(part, ROW)) {
            return CANNOT;
        }
        bench.spread(part);
        bench.drawColumn(c);
        return what == 0 ? bench.dimmest() : what == 1 ? bench.passes() : bench.hot(c);
    }

    // ---- boxes

    public int box(int part, int what, int v) {
        if (!isPart(part) || what < 0 || what > 1 || v < (what == 0 ? 0 : 1) || v > (what == 0 ? TOP : 40)) {
            return NO_SUCH;
        }
        Seeker seeker = seekerOf(part);
        if (seeker == null) {
            return CANNOT;
        }
        int was = what == 0 ? seeker.push : seeker.stride;
        seeker.begin(what == 0 ? v : seeker.push, what == 0 ? seeker.stride : v);
        return was;
    }

    public int seek(int part, int n) {
        if (!isPart(part) || n < 1 || n > 100) {
            return NO_SUCH;
        }
        Seeker seeker = seekerOf(part);
        if (seeker == null) {
            return CANNOT;
        }
        bench.spread(part);
        bench.findBest();
        for (int k = 0; k < n; k++) {
            seeker.goOn(bench.powerAt(seeker.push));
        }
        return seeker.push;
    }

    public int led(int part, int u, int n) {
        if (!isPart(part) || u < 0 || u > TOP || n < 0 || n > 200) {
            return NO_SUCH;
        }
        Seeker seeker = seekerOf(part);
        if (seeker == null) {
            return CANNOT;
        }
        bench.spread(part);
        bench.findBest();
        trial.begin(u, seeker.stride);
        for (int k = 0; k <= n; k++) {
            if (Math.abs(trial.push - bench.bestPush) <= trial.stride) {
                return k;
            }
            trial.goOn(bench.powerAt(trial.push));
        }
        return NONE;
    }

    // ---- roofs, skies, days

    public int lies(int part, int from, int to) {
        if (!isPart(part) || !isPlace(from) || !isPlace(to) || from / 100 > to / 100 || from % 100 > to % 100) {
            return NO_SUCH;
        }
        if (!isOfKind(part, CELL)) {
            return CANNOT;
        }
        lay(house.cells.from, part, from);
        lay(house.cells.to, part, to);
        return (to / 100 - from / 100 + 1) * (to % 100 - from % 100 + 1);
    }

    public int wall(int k, int x, int y, int height) {
        boolean placed = x >= 0 && x < WIDE && y >= 0 && y < HIGH;
        if (k < 0 || k >= WALLS || !placed || height < 0 || height > MOST_HEIGHT) {
            return NO_SUCH;
        }
        Roof roof = house.roof;
        int was = at(roof.wallHeight, k);
        lay(roof.wallX, k, x);
        lay(roof.wallY, k, y);
        lay(roof.wallHeight, k, height);
        return was;
    }

    public int sun(int hour, int direction, int length) {
        if (!isHour(hour) || direction < 0 || direction > 7 || length < 0 || length > MOST_LENGTH) {
            return NO_SUCH;
        }
        Roof roof = house.roof;
        int was = 100 * at(roof.direction, hour) + at(roof.length, hour);
        lay(roof.direction, hour, direction);
        lay(roof.length, hour, length);
        return was;
    }

    public int lit(int part, int hour) {
        if (!isPart(part) || !isHour(hour)) {
            return NO_SUCH;
        }
        if (!isOfKind(part, CELL)) {
            return CANNOT;
        }
        house.roof.castShades(hour, shades);
        return house.cells.litOf(part, shades);
    }

    public int sky(int d) {
        Shelf shelf = shelfAt(d);
        int refusal = refusalOfRow(shelf, ANY_SORT);
        if (refusal != 0 || shelf == null) {
            return refusal;
        }
        house.roof.takeSky(shelf);
        return shelf.size;
    }

    public int strength(int day, int hour) {
        if (!isDay(day) || !isHour(hour)) {
            return NO_SUCH;
        }
        return house.roof.strengthAt(day * HOURS + hour);
    }

    public int hour(int part, int day, int hour) {
        if (!isPart(part) || !isDay(day) || !isHour(hour)) {
            return NO_SUCH;
        }
        return bestInHour(part, day, hour);
    }

    public int day(int part, int day) {
        if (!isPart(part) || !isDay(day)) {
            return NO_SUCH;
        }
        int sum = 0;
        for (int hour = 0; hour < HOURS; hour++) {
            sum += bestInHour(part, day, hour);
        }
        return sum;
    }

    // ---- plans

    public int wash(int d, int told) {
        int refusal = planWashing(d, told);
        return refusal != 0 ? refusal : at(washing.most, 0);
    }

    public int washed(int d, int told, int i) {
        if (i < -1) {
            return NO_SUCH;
        }
        int refusal = planWashing(d, told);
        return refusal != 0 ? refusal : washing.washDay(i);
    }

    public int parting(int d, int what) {
        Shelf shelf = shelfAt(d);
        if (what < 0 || what > 1) {
            return NO_SUCH;
        }
        int refusal = refusalOfRow(shelf, BYTES);
        if (refusal != 0 || shelf == null) {
            return refusal;
        }
        if (!tellsCells(shelf)) {
            return NO_PLACE;
        }
        bench.spreadTold(shelf);
        int partingSet = bench.findParting();
        return what == 0 ? bench.bestPower : partingSet;
    }

    public int trade(int hour, int told) {
        if (!isHour(hour) || told < 0 || told > 2099) {
            return NO_SUCH;
        }
        Store store = house.store;
        int was = 100 * at(store.surplus, hour) + at(store.price, hour);
        lay(store.surplus, hour, told / 100);
        lay(store.price, hour, told % 100);
        return was;
    }

    public int room(int n) {
        if (n < 0 || n > MOST_ROOM) {
            return NO_SUCH;
        }
        int was = house.store.space;
        house.store.space = n;
        return was;
    }

    public int sells(int hour) {
        if (hour < -1 || hour >= HOURS) {
            return NO_SUCH;
        }
        house.store.plan();
        return hour < 0 ? house.store.mostTaken() : house.store.soldIn(hour);
    }

    public int without(int part, int causes) {
        if (!isPart(part) || causes < 0 || causes >= SETS_OF_CAUSES) {
            return NO_SUCH;
        }
        return bestWithout(part, causes);
    }

    public long loss(int part, int cause, boolean all) throws IllegalArgumentException {
        if (!isPart(part) || cause < 0 || cause >= CAUSES) {
            throw new IllegalArgumentException("no such part, or no such cause");
        }
        int own = 1 << cause;
        if (!all) {
            return (long) bestWithout(part, 2 * own - 1) - bestWithout(part, own - 1);
        }
        long sum = 0;
        for (int others = 0; others < SETS_OF_CAUSES; others++) {
            if ((others & own) == 0) {
                long adds = (long) bestWithout(part, others | own) - bestWithout(part, others);
                sum += adds * at(ORDERS_BEHIND_SET, Integer.bitCount(others));
            }
        }
        return sum;
    }

    // ---- faults

    public int faults(int part) {
        if (!isPart(part)) {
            return NO_SUCH;
        }
        bench.spread(part);
        return bench.faultsThatMayBe();
    }

    public int fits(int part, int d, int i) {
        if (i < -1) {
            return NO_SUCH;
        }
        int refusal = diagnose(part, d);
        return refusal != 0 ? refusal : diagnosis.fitting(i);
    }

    public int look(int part, int d) {
        int refusal = diagnose(part, d);
        return refusal != 0 ? refusal : diagnosis.nextLook();
    }

    // ---- the image, what is told

    public int image() {
        pictured.takeAll(house);
        hasPicture = true;
        return house.parts.size;
    }

    public int restore() {
        if (!hasPicture) {
            return CANNOT;
        }
        house.takeAll(pictured);
        return house.parts.size;
    }

    public int count(int what) {
        if (what < 0 || what > 8) {
            return NO_SUCH;
        }
        if (what == 0) {
            return house.parts.size;
        }
        if (what <= 4) {
            return house.parts.howMany(what - 1);
        }
        if (what == 5) {
            return house.cells.howManyGone(house.parts);
        }
        if (what == 6) {
            return house.roof.standing();
        }
        return what == 7 ? house.roof.skySize : house.store.space;
    }

    // ---- shelves

    public int keep(int d, int what, int k) {
        Shelf shelf = shelfAt(d);
        if (shelf == null || what < 0 || what > 1 || (what == 1 && !isPart(k))) {
            return NO_SUCH;
        }
        if (what == 0) {
            shelf.holdNothing();
        } else {
            shelf.holdPart(weightOf(k), failureOf(k));
        }
        return 0;
    }

    public int row(int d, int sort, int n) {
        Shelf shelf = shelfAt(d);
        if (shelf == null || sort < BYTES || sort > INTS || n > MOST_ELEMENTS) {
            return NO_SUCH;
        }
        if (n < 0) {
            return SIZE_BELOW_0;
        }
        shelf.holdRow(sort, n);
        return 0;
    }

    public int put(int d, int i, int v) {
        Shelf shelf = shelfAt(d);
        int refusal = refusalOfRow(shelf, ANY_SORT);
        if (refusal != 0 || shelf == null) {
            return refusal;
        }
        if (i < 0 || i >= shelf.size) {
            return NO_PLACE;
        }
        lay(shelf.elements, i, shelf.lowestBits(v));
        return 0;
    }

    public long element(int d, int i) throws IllegalArgumentException, IllegalStateException {
        Shelf shelf = shelfAt(d);
        if (shelf == null) {
            throw new IllegalArgumentException("no such shelf");
        }
        if (!shelf.holdsRow || i < 0 || i >= shelf.size) {
            throw new IllegalStateException("no row, or no such place in it");
        }
        return at(shelf.elements, i);
    }

    public int copy(int d, int i, int e, int j, int n) {
        Shelf source = shelfAt(d);
        Shelf goal = shelfAt(e);
        if (source == null || goal == null) {
            return NO_SUCH;
        }
        if (source.holdsNothing() || goal.holdsNothing()) {
            return NOTHING_HELD;
        }
        if (!source.holdsRow || !goal.holdsRow || source.sort != goal.sort) {
            return OTHER_KIND;
        }
        if (!source.hasRun(i, n) || !goal.hasRun(j, n)) {
            return NO_PLACE;
        }
        System.arraycopy(source.elements, i, goal.elements, j, n);
        return n;
    }

    public int weight(int d) {
        Shelf shelf = shelfAt(d);
        int refusal = refusalOfPart(shelf);
        return refusal != 0 || shelf == null ? refusal : shelf.load;
    }

    public int toss(int d) {
        Shelf shelf = shelfAt(d);
        int refusal = refusalOfPart(shelf);
        return refusal != 0 || shelf == null ? refusal : shelf.failure;
    }

    // ---- what several calls need

    /** Reads an element where there is one, so that no index is used without a look at it. */
    private static int at(int[] row, int i) {
        return row != null && i >= 0 && i < row.length ? row[i] : 0;
    }

    /** Writes an element where there is one. */
    private static void lay(int[] row, int i, int v) {
        if (row != null && i >= 0 && i < row.length) {
            row[i] = v;
        }
    }

    private static void copyOver(int[] from, int[] to) {
        if (from != null && to != null && from.length <= to.length) {
            System.arraycopy(from, 0, to, 0, from.length);
        }
    }

    private boolean isPart(int part) {
        return part >= 0 && part < house.parts.size;
    }

    private boolean isOfKind(int part, int kind) {
        return at(house.parts.kind, part) == kind;
    }

    private static boolean isHour(int hour) {
        return hour >= 0 && hour < HOURS;
    }

    private static boolean isDay(int day) {
        return day >= 0 && day < DAYS;
    }

    private static boolean isPlace(int told) {
        return told >= 0 && told / 100 < WIDE && told % 100 < HIGH;
    }

    private Shelf shelfAt(int d) {
        return d >= 0 && d < shelves.length ? shelves[d] : null;
    }

    private Seeker seekerOf(int part) {
        boolean there = part >= 0 && part < house.seekers.length;
        return there && isOfKind(part, BOX) ? house.seekers[part] : null;
    }

    private static int refusalOfRow(Shelf shelf, int sort) {
        if (shelf == null) {
            return NO_SUCH;
        }
        if (shelf.holdsNothing()) {
            return NOTHING_HELD;
        }
        return shelf.holdsRow && (sort == ANY_SORT || sort == shelf.sort) ? 0 : OTHER_KIND;
    }

    private static int refusalOfPart(Shelf shelf) {
        if (shelf == null) {
            return NO_SUCH;
        }
        if (shelf.holdsNothing()) {
            return NOTHING_HELD;
        }
        return shelf.holdsPart ? 0 : OTHER_KIND;
    }

    private int currentOf(int part, int u) {
        bench.spread(part);
        bench.drawAll();
        bench.sumCurrents(u, u);
        return bench.currentAt(u);
    }

    private int bestInHour(int part, int day, int hour) {
        house.roof.castShades(hour, shades);
        bench.spread(part);
        bench.shine(shades, house.roof.strengthAt(day * HOURS + hour));
        bench.findBest();
        return bench.bestPower;
    }

    private int bestWithout(int part, int causes) {
        bench.spread(part);
        bench.takeOff(causes);
        bench.findBest();
        return bench.bestPower;
    }

    /** Plans the washing days, or tells the refusal (0: none). */
    private int planWashing(int d, int told) {
        Shelf shelf = shelfAt(d);
        if (told < 0 || told > 209999) {
            return NO_SUCH;
        }
        int refusal = refusalOfRow(shelf, SHORTS);
        if (refusal != 0 || shelf == null) {
            return refusal;
        }
        if (!tellsGains(shelf)) {
            return NO_PLACE;
        }
        washing.plan(shelf, told / 10000, told % 10000);
        return 0;
    }

    private static boolean tellsGains(Shelf shelf) {
        if (shelf.size < 1 || shelf.size > MOST_WASH_DAYS) {
            return false;
        }
        for (int i = 0; i < shelf.size; i++) {
            int gain = at(shelf.elements, i);
            if (gain < 0 || gain > 999) {
                return false;
            }
        }
        return true;
    }

    private boolean tellsCells(Shelf shelf) {
        if (shelf.size < 2 || shelf.size > MOST_PARTED) {
            return false;
        }
        for (int i = 0; i < shelf.size; i++) {
            int part = at(shelf.elements, i);
            if (!isPart(part) || !isOfKind(part, CELL) || shelf.placeOf(part) < i) {
                return false;
            }
        }
        return true;
    }

    /** Finds the FAULTS that fit, or tells the refusal (0: none). */
    private int diagnose(int part, int d) {
        Shelf shelf = shelfAt(d);
        if (!isPart(part)) {
            return NO_SUCH;
        }
        int refusal = refusalOfRow(shelf, BYTES);
        if (refusal != 0 || shelf == null) {
            return refusal;
        }
        if (shelf.size % 2 != 0 || shelf.size > MOST_MEASURED) {
            return NO_PLACE;
        }
        bench.spread(part);
        bench.drawAll();
        diagnosis.find(bench, shelf);
        return 0;
    }

    private int weightOf(int part) {
        int load = 10 + part;
        int kind = at(house.parts.kind, part);
        if (kind == CELL) {
            return load + house.cells.lastPush(part, at(house.parts.told, part));
        }
        if (kind == BOX) {
            Seeker seeker = seekerOf(part);
            return seeker == null ? load : load + seeker.stride;
        }
        bench.spread(part);
        int asRow = load + 10 * bench.cells;
        return kind == FIELD ? 2 * asRow : asRow;
    }

    private int failureOf(int part) {
        int current = currentOf(part, 0);
        if (isOfKind(part, BOX) || current == 0) {
            return NO_FAILURE;
        }
        return isOfKind(part, FIELD) ? 1000 + current : current;
    }

    /** All that THE IMAGE holds. */
    private static final class House {
        final Parts parts = new Parts();
        final Cells cells = new Cells();
        final Seeker[] seekers = new Seeker[MOST_PARTS];
        final Roof roof = new Roof();
        final Store store = new Store();

        House() {
            for (int part = 0; part < MOST_PARTS; part++) {
                seekers[part] = new Seeker();
            }
        }

        void takeAll(House other) {
            parts.takeAll(other.parts);
            cells.takeAll(other.cells);
            for (int part = 0; part < seekers.length && part < other.seekers.length; part++) {
                Seeker seeker = seekers[part];
                Seeker theirs = other.seekers[part];
                if (seeker != null && theirs != null) {
                    seeker.takeAll(theirs);
                }
            }
            roof.takeAll(other.roof);
            store.takeAll(other.store);
        }

        /** A PART's slot may have served before a restore or a faulty text: it starts anew. */
        int beginPart(int kind, int told) {
            int part = parts.begin(kind, told);
            cells.begin(part);
            if (part >= 0 && part < seekers.length && seekers[part] != null) {
                seekers[part].begin(0, 5);
            }
            return part;
        }
    }

    /** The PARTS, and which are in which. */
    private static final class Parts {
        int size = 0;
        final int[] kind = new int[MOST_PARTS];
        final int[] told = new int[MOST_PARTS];
        final int[] whole = new int[MOST_PARTS];
        final int[] members = new int[MOST_PARTS];
        final int[] member = new int[MOST_PARTS * MOST_IN_ROW];
        final int[] group = new int[MOST_PARTS * MOST_IN_ROW];
        final int[] diode = new int[MOST_PARTS * MOST_IN_ROW];

        void takeAll(Parts other) {
            size = other.size;
            copyOver(other.kind, kind);
            copyOver(other.told, told);
            copyOver(other.whole, whole);
            copyOver(other.members, members);
            copyOver(other.member, member);
            copyOver(other.group, group);
            copyOver(other.diode, diode);
        }

        int begin(int kindOfPart, int toldOf) {
            int part = size;
            lay(kind, part, kindOfPart);
            lay(told, part, toldOf);
            lay(whole, part, -1);
            lay(members, part, 0);
            size++;
            return part;
        }

        /** Takes a member into the PART; false if it may not be there. */
        boolean join(int part, int other, int groupOf, int diodeOf) {
            boolean free = other >= 0 && other < part && at(whole, other) < 0;
            if (!free || !mayHold(at(kind, part), at(kind, other))) {
                return false;
            }
            int slot = part * MOST_IN_ROW + at(members, part);
            lay(member, slot, other);
            lay(group, slot, groupOf);
            lay(diode, slot, diodeOf);
            lay(members, part, at(members, part) + 1);
            lay(whole, other, part);
            return true;
        }

        private static boolean mayHold(int holder, int other) {
            return holder == ROW && other == CELL
                || holder == FIELD && (other == CELL || other == ROW)
                || holder == BOX && other != BOX;
        }

        /** Takes back all PARTS from n on. */
        void cutTo(int n) {
            size = n;
            for (int part = 0; part < n; part++) {
                if (at(whole, part) >= n) {
                    lay(whole, part, -1);
                }
            }
        }

        int howMany(int kindOfPart) {
            int sum = 0;
            for (int part = 0; part < size; part++) {
                if (at(kind, part) == kindOfPart) {
                    sum++;
                }
            }
            return sum;
        }
    }

    /** What is told of each CELL, by its PART's number. */
    private static final class Cells {
        final int[] push = new int[MOST_PARTS * MOST_POINTS];
        final int[] current = new int[MOST_PARTS * MOST_POINTS];
        final int[] setting = new int[MOST_PARTS * CAUSES];
        final int[] gone = new int[MOST_PARTS];
        final int[] from = new int[MOST_PARTS];
        final int[] to = new int[MOST_PARTS];

        void takeAll(Cells other) {
            copyOver(other.push, push);
            copyOver(other.current, current);
            copyOver(other.setting, setting);
            copyOver(other.gone, gone);
            copyOver(other.from, from);
            copyOver(other.to, to);
        }

        void begin(int cell) {
            for (int cause = 0; cause < CAUSES; cause++) {
                lay(setting, cell * CAUSES + cause, cause == LIGHT ? 100 : 0);
            }
            lay(gone, cell, 0);
            lay(from, cell, -1);
            lay(to, cell, -1);
        }

        /** Whether the first n POINTS that were laid for the CELL make a CURVE. */
        boolean hasCurve(int cell, int n) {
            int first = cell * MOST_POINTS;
            int last = first + n - 1;
            if (at(push, first) != 0 || at(push, last) > 60 || at(current, first) == 0 || at(current, last) != 0) {
                return false;
            }
            for (int i = first + 1; i <= last; i++) {
                if (at(push, i) <= at(push, i - 1) || at(current, i) >= at(current, i - 1)) {
                    return false;
                }
            }
            return true;
        }

        int lastPush(int cell, int points) {
            return at(push, cell * MOST_POINTS + points - 1);
        }

        int litOf(int cell, int[] shades) {
            int begin = at(from, cell);
            int end = at(to, cell);
            if (begin < 0 || end < 0) {
                return 100;
            }
            int places = 0;
            int bright = 0;
            for (int x = begin / 100; x <= end / 100; x++) {
                for (int y = begin % 100; y <= end % 100; y++) {
                    places++;
                    bright += at(shades, y * WIDE + x) == 0 ? 1 : 0;
                }
            }
            return places == 0 ? 100 : bright * 100 / places;
        }

        int howManyGone(Parts parts) {
            int sum = 0;
            for (int part = 0; part < parts.size; part++) {
                if (at(parts.kind, part) == CELL && at(gone, part) != 0) {
                    sum++;
                }
            }
            return sum;
        }
    }

    /** A BOX that seeks by steps. */
    private static final class Seeker {
        int push = 0;
        int stride = 5;
        boolean down = false;
        boolean measured = false;
        int measure = 0;

        void takeAll(Seeker other) {
            push = other.push;
            stride = other.stride;
            down = other.down;
            measured = other.measured;
            measure = other.measure;
        }

        void begin(int u, int strideOf) {
            push = u;
            stride = strideOf;
            down = false;
            measured = false;
            measure = 0;
        }

        void goOn(int power) {
            if (measured && power < measure) {
                down = !down;
            }
            measured = true;
            measure = power;
            push += down ? -stride : stride;
            if (push < 0) {
                push = 0;
                down = !down;
            } else if (push > TOP) {
                push = TOP;
                down = !down;
            }
        }
    }

    /** WALLS, the SUN of HOURS, the SKY. */
    private static final class Roof {
        final int[] wallX = new int[WALLS];
        final int[] wallY = new int[WALLS];
        final int[] wallHeight = new int[WALLS];
        final int[] direction = new int[HOURS];
        final int[] length = new int[HOURS];
        final int[] sky = new int[MOST_ELEMENTS];
        int skySize = 0;
        int gap = 0;

        void takeAll(Roof other) {
            copyOver(other.wallX, wallX);
            copyOver(other.wallY, wallY);
            copyOver(other.wallHeight, wallHeight);
            copyOver(other.direction, direction);
            copyOver(other.length, length);
            copyOver(other.sky, sky);
            skySize = other.skySize;
            gap = other.gap;
        }

        int standing() {
            int sum = 0;
            for (int k = 0; k < WALLS; k++) {
                if (at(wallHeight, k) > 0) {
                    sum++;
                }
            }
            return sum;
        }

        void castShades(int hour, int[] shades) {
            Arrays.fill(shades, 0);
            for (int k = 0; k < WALLS; k++) {
                if (at(wallHeight, k) > 0) {
                    castShade(k, hour, shades);
                }
            }
        }

        private void castShade(int k, int hour, int[] shades) {
            int towards = at(direction, hour);
            int far = at(wallHeight, k) * at(length, hour) / 10;
            for (int step = 0; step <= far; step++) {
                int x = at(wallX, k) + step * at(EASTWARD, towards);
                int y = at(wallY, k) + step * at(NORTHWARD, towards);
                if (x >= 0 && x < WIDE && y >= 0 && y < HIGH) {
                    lay(shades, y * WIDE + x, 1);
                }
            }
        }

        void takeSky(Shelf shelf) {
            copyOver(shelf.elements, sky);
            skySize = shelf.size;
            gap = shelf.leastOfSort();
        }

        int strengthAt(int place) {
            if (place < 0 || place >= skySize) {
                return 0;
            }
            long value = at(sky, place) == gap ? meanAround(place) : at(sky, place);
            return value < 0 ? 0 : value > 100 ? 100 : (int) value;
        }

        /** The mean is taken of what stands there, in long, since two ints may be too much for an int. */
        private long meanAround(int place) {
            int ahead = place;
            while (ahead >= 0 && at(sky, ahead) == gap) {
                ahead--;
            }
            int behind = place;
            while (behind < skySize && at(sky, behind) == gap) {
                behind++;
            }
            if (ahead < 0 && behind >= skySize) {
                return 0;
            }
            long first = at(sky, ahead < 0 ? behind : ahead);
            long second = at(sky, behind >= skySize ? ahead : behind);
            return (first + second) / 2;
        }
    }

    /** A store that sells by prices. */
    private static final class Store {
        final int[] surplus = new int[HOURS];
        final int[] price = new int[HOURS];
        int space = 0;
        /** most[h * (MOST_ROOM + 1) + s]: the most that HOURS h .. bring, if s is stored ahead of them. */
        private final int[] most = new int[(HOURS + 1) * (MOST_ROOM + 1)];

        void takeAll(Store other) {
            copyOver(other.surplus, surplus);
            copyOver(other.price, price);
            space = other.space;
        }

        void plan() {
            Arrays.fill(most, 0);
            for (int hour = HOURS - 1; hour >= 0; hour--) {
                for (int stored = 0; stored <= space; stored++) {
                    int there = stored + at(surplus, hour);
                    int greatest = 0;
                    for (int sold = leastSold(there); sold <= there; sold++) {
                        greatest = Math.max(greatest, taken(hour, there, sold));
                    }
                    lay(most, hour * (MOST_ROOM + 1) + stored, greatest);
                }
            }
        }

        private int leastSold(int there) {
            return Math.max(0, there - space);
        }

        private int taken(int hour, int there, int sold) {
            return sold * at(price, hour) + at(most, (hour + 1) * (MOST_ROOM + 1) + there - sold);
        }

        int mostTaken() {
            return at(most, 0);
        }

        /** Follows, from HOUR 0 on, the least sale that still leads to the most. */
        int soldIn(int wanted) {
            int stored = 0;
            int sold = 0;
            for (int hour = 0; hour <= wanted; hour++) {
                int there = stored + at(surplus, hour);
                int goal = at(most, hour * (MOST_ROOM + 1) + stored);
                sold = leastSold(there);
                while (sold < there && taken(hour, there, sold) != goal) {
                    sold++;
                }
                stored = there - sold;
            }
            return sold;
        }
    }

    /** A SHELF: nothing, a PART as it was, or a ROW of elements. */
    private static final class Shelf {
        boolean holdsPart = false;
        boolean holdsRow = false;
        int load = 0;
        int failure = 0;
        int sort = 0;
        int size = 0;
        final int[] elements = new int[MOST_ELEMENTS];

        boolean holdsNothing() {
            return !holdsPart && !holdsRow;
        }

        void holdNothing() {
            holdsPart = false;
            holdsRow = false;
        }

        void holdPart(int loadOf, int failureOf) {
            holdsPart = true;
            holdsRow = false;
            load = loadOf;
            failure = failureOf;
        }

        void holdRow(int sortOf, int n) {
            holdsPart = false;
            holdsRow = true;
            sort = sortOf;
            size = n;
            Arrays.fill(elements, 0);
        }

        int lowestBits(int v) {
            return sort == BYTES ? (byte) v : sort == SHORTS ? (short) v : v;
        }

        int leastOfSort() {
            return sort == BYTES ? LEAST_BYTE : sort == SHORTS ? LEAST_SHORT : LEAST_INT;
        }

        /** n may be as great as an int can be, so that i and n together are only added in long. */
        boolean hasRun(int i, int n) {
            return i >= 0 && n >= 0 && (long) i + n <= Math.min(size, elements.length);
        }

        int placeOf(int v) {
            for (int i = 0; i < size; i++) {
                if (at(elements, i) == v) {
                    return i;
                }
            }
            return size;
        }
    }

    /** Reads a TEXT: its shape first (FAULTS of kind 1), then what its STATEMENTS tell (kind 2). */
    private static final class Reader {
        private static final int SIGN = 0;
        private static final int NUMBER = 1;
        private static final int MORE_OR_END = 2;
        private static final int END = 3;

        private int size = 0;
        private int place = 0;
        private int expected = SIGN;
        private int kind = 0;
        private boolean behindPush = false;
        private int underDiode = 0;
        private int groups = 0;
        private int statements = 0;
        private int numbers = 0;
        private final int[] start = new int[MOST_ELEMENTS];
        private final int[] sign = new int[MOST_ELEMENTS];
        private final int[] firstNumber = new int[MOST_ELEMENTS + 1];
        private final int[] groupsTold = new int[MOST_ELEMENTS];
        private final int[] number = new int[MOST_ELEMENTS];
        private final int[] group = new int[MOST_ELEMENTS];
        private final int[] diode = new int[MOST_ELEMENTS];

        int read(Shelf shelf, House house) {
            if (!readShape(shelf)) {
                return -1000 - place;
            }
            int before = house.parts.size;
            for (int s = 0; s < statements; s++) {
                if (!tell(house, s)) {
                    house.parts.cutTo(before);
                    return -2000 - at(start, s);
                }
            }
            return house.parts.size - before;
        }

        /** Leaves place at the first byte with which no TEXT can go on, if there is one. */
        private boolean readShape(Shelf shelf) {
            size = shelf.size;
            expected = SIGN;
            statements = 0;
            numbers = 0;
            for (place = 0; place < size; place++) {
                if (!goOn(at(shelf.elements, place))) {
                    return false;
                }
            }
            return expected == SIGN && statements > 0;
        }

        /** Takes one byte more; false if no TEXT can go on with it. */
        private boolean goOn(int next) {
            if (expected == SIGN) {
                return beginStatement(next);
            }
            boolean digit = next >= '0' && next <= '9';
            if (expected == NUMBER) {
                return digit ? beginNumber(next - '0') : openGroup(next);
            }
            if (digit && expected == MORE_OR_END) {
                lay(number, numbers - 1, 10 * at(number, numbers - 1) + next - '0');
                expected = END;
                return true;
            }
            return next == '/' ? goOnToCurrent()
                : next == ']' ? closeGroup()
                : next == ' ' ? goOnToNext()
                : next == ';' && endStatement();
        }

        private boolean beginStatement(int next) {
            if (next != 'c' && next != 'r' && next != 'f' && next != 'b') {
                return false;
            }
            lay(start, statements, place);
            lay(sign, statements, next);
            kind = next;
            behindPush = false;
            underDiode = 0;
            groups = 1;
            expected = NUMBER;
            return true;
        }

        private boolean beginNumber(int digit) {
            lay(number, numbers, digit);
            lay(group, numbers, groups - 1);
            lay(diode, numbers, underDiode);
            numbers++;
            expected = digit == 0 ? END : MORE_OR_END;
            return true;
        }

        private boolean openGroup(int next) {
            if (next != '[' || kind != 'r' || underDiode != 0) {
                return false;
            }
            underDiode = 1;
            return true;
        }

        private boolean goOnToCurrent() {
            if (kind != 'c' || behindPush) {
                return false;
            }
            behindPush = true;
            expected = NUMBER;
            return true;
        }

        private boolean closeGroup() {
            if (underDiode == 0) {
                return false;
            }
            underDiode = 0;
            expected = END;
            return true;
        }

        private boolean goOnToNext() {
            if (kind == 'b' || kind == 'c' && !behindPush) {
                return false;
            }
            if (underDiode == 0) {
                groups++;
            }
            behindPush = false;
            expected = NUMBER;
            return true;
        }

        private boolean endStatement() {
            if (underDiode != 0 || kind == 'c' && !behindPush) {
                return false;
            }
            lay(groupsTold, statements, groups);
            statements++;
            lay(firstNumber, statements, numbers);
            expected = SIGN;
            return true;
        }

        /** Makes the PART of a STATEMENT; false if it isn't as told. */
        private boolean tell(House house, int s) {
            if (house.parts.size >= MOST_PARTS) {
                return false;
            }
            int first = at(firstNumber, s);
            int n = at(firstNumber, s + 1) - first;
            int what = at(sign, s);
            if (what == 'c') {
                return tellCell(house, first, n / 2);
            }
            if (what == 'r') {
                return n <= MOST_IN_ROW && tellWhole(house, ROW, at(groupsTold, s), first, n);
            }
            if (what == 'f') {
                return n <= MOST_IN_FIELD && tellWhole(house, FIELD, n, first, n);
            }
            return tellWhole(house, BOX, 1, first, n);
        }

        private boolean tellCell(House house, int first, int points) {
            if (points < 2 || points > MOST_POINTS) {
                return false;
            }
            int cell = house.beginPart(CELL, points);
            for (int i = 0; i < points; i++) {
                lay(house.cells.push, cell * MOST_POINTS + i, at(number, first + 2 * i));
                lay(house.cells.current, cell * MOST_POINTS + i, at(number, first + 2 * i + 1));
            }
            return house.cells.hasCurve(cell, points);
        }

        private boolean tellWhole(House house, int kind, int told, int first, int n) {
            int whole = house.beginPart(kind, told);
            for (int i = first; i < first + n; i++) {
                if (!house.parts.join(whole, at(number, i), at(group, i), at(diode, i))) {
                    return false;
                }
            }
            return true;
        }
    }

    /** Where a PART is spread out to be worked on: its lines side by side, their groups, their CELLS in order. */
    private static final class Bench {
        int cells = 0;
        int bestPower = 0;
        int bestPush = 0;
        private final House house;
        private int groups = 0;
        private int lines = 0;
        private int lowest = 0;
        private boolean sideBySide = false;
        private final int[] firstOfLine = new int[MOST_IN_FIELD + 1];
        private final int[] diode = new int[MOST_PARTS];
        private final int[] group = new int[MOST_PARTS];
        private final int[] cell = new int[MOST_PARTS];
        private final int[] setting = new int[MOST_PARTS * CAUSES];
        private final int[] gone = new int[MOST_PARTS];
        final int[] pushNow = new int[MOST_PARTS * MOST_POINTS];
        final int[] currentNow = new int[MOST_PARTS * MOST_POINTS];
        /** pushes[c * MOST_PARTS + j]: PUSH of the j-th CELL at c; behind the last c a column for any c. */
        private final int[] pushes = new int[(CURRENTS + 1) * MOST_PARTS];
        private final int[] linePush = new int[CURRENTS];
        private final int[] sums = new int[HIGHEST_PUSH + 1];

        Bench(House houseOf) {
            house = houseOf;
        }

        void spread(int part) {
            Parts parts = house.parts;
            clear();
            boolean boxed = at(parts.kind, part) == BOX;
            int inner = boxed ? at(parts.member, part * MOST_IN_ROW) : part;
            sideBySide = at(parts.kind, inner) == FIELD;
            if (!sideBySide) {
                addLine(inner);
                return;
            }
            int members = at(parts.members, inner);
            for (int i = 0; i < members; i++) {
                addLine(at(parts.member, inner * MOST_IN_ROW + i));
            }
        }

        /** CELLS that are told one by one, for a PARTING: they stand in no line yet. */
        void spreadTold(Shelf told) {
            clear();
            for (int i = 0; i < told.size; i++) {
                addCell(at(told.elements, i), i);
            }
        }

        private void clear() {
            cells = 0;
            groups = 0;
            lines = 0;
            Arrays.fill(diode, 0);
        }

        private void addLine(int line) {
            Parts parts = house.parts;
            if (at(parts.kind, line) == CELL) {
                addCell(line, groups);
                groups++;
            } else {
                int members = at(parts.members, line);
                for (int i = 0; i < members; i++) {
                    int slot = line * MOST_IN_ROW + i;
                    int inGroup = groups + at(parts.group, slot);
                    lay(diode, inGroup, at(parts.diode, slot));
                    addCell(at(parts.member, slot), inGroup);
                }
                groups += at(parts.told, line);
            }
            lines++;
            lay(firstOfLine, lines, cells);
        }

        private void addCell(int number, int inGroup) {
            lay(cell, cells, number);
            lay(group, cells, inGroup);
            lay(gone, cells, at(house.cells.gone, number));
            for (int cause = 0; cause < CAUSES; cause++) {
                lay(setting, cells * CAUSES + cause, at(house.cells.setting, number * CAUSES + cause));
            }
            cells++;
        }

        int diodes() {
            int sum = 0;
            for (int g = 0; g < groups; g++) {
                sum += at(diode, g);
            }
            return sum;
        }

        void takeOff(int causes) {
            for (int i = 0; i < cells * CAUSES; i++) {
                int cause = i % CAUSES;
                if ((causes >> cause & 1) != 0) {
                    lay(setting, i, cause == LIGHT ? 100 : 0);
                }
            }
        }

        void shine(int[] shades, int strength) {
            for (int j = 0; j < cells; j++) {
                lay(setting, j * CAUSES + LIGHT, house.cells.litOf(at(cell, j), shades) * strength / 100);
            }
        }

        /** The POINTS of the j-th CELL as they are now. */
        void drawPoints(int j) {
            int first = j * CAUSES;
            int warm = at(setting, first + 3);
            int share = at(setting, first) * (100 - at(setting, first + 1)) * (100 - at(setting, first + 2)) / 10000;
            if (at(gone, j) != 0) {
                share = 0;
            }
            for (int i = 0; i < MOST_POINTS; i++) {
                int push = at(house.cells.push, at(cell, j) * MOST_POINTS + i);
                int current = at(house.cells.current, at(cell, j) * MOST_POINTS + i);
                lay(pushNow, j * MOST_POINTS + i, push - push * warm / 100);
                lay(currentNow, j * MOST_POINTS + i, current * share / 100);
            }
        }

        private void drawCell(int j) {
            drawPoints(j);
            for (int c = 0; c < CURRENTS; c++) {
                lay(pushes, c * MOST_PARTS + j, pushOfCell(j, c));
            }
        }

        void drawAll() {
            for (int j = 0; j < cells; j++) {
                drawCell(j);
            }
        }

        /** Draws the column that stands behind all others, for any c. */
        void drawColumn(int c) {
            for (int j = 0; j < cells; j++) {
                drawPoints(j);
                lay(pushes, CURRENTS * MOST_PARTS + j, pushOfCell(j, c));
            }
        }

        private int pushOfCell(int j, int c) {
            int first = j * MOST_POINTS;
            int above = c - at(currentNow, first);
            if (above > 0) {
                return -Math.min(2 * above, MOST_BACKWARD);
            }
            for (int later = first + at(house.parts.told, at(cell, j)) - 1; later > first; later--) {
                if (c >= at(currentNow, later) && c <= at(currentNow, later - 1)) {
                    return pushBetween(later, c);
                }
            }
            return 0;
        }

        private int pushBetween(int later, int c) {
            int push = at(pushNow, later);
            int wide = at(currentNow, later - 1) - at(currentNow, later);
            if (wide == 0) {
                return push;
            }
            return push - (push - at(pushNow, later - 1)) * (c - at(currentNow, later)) / wide;
        }

        /** PUSH of a line by the column that begins at base. */
        private int pushOfLine(int line, int base) {
            int sum = 0;
            int together = 0;
            int end = at(firstOfLine, line + 1);
            for (int j = at(firstOfLine, line); j < end; j++) {
                together += at(pushes, base + j);
                if (j + 1 == end || at(group, j + 1) != at(group, j)) {
                    sum += at(diode, at(group, j)) != 0 ? Math.max(together, -1) : together;
                    together = 0;
                }
            }
            return sum;
        }

        int pushAt(int c) {
            if (!sideBySide) {
                drawColumn(c);
                return pushOfLine(0, CURRENTS * MOST_PARTS);
            }
            drawAll();
            sumCurrents(0, HIGHEST_PUSH);
            int u = HIGHEST_PUSH;
            while (u >= 0 && currentAt(u) < c) {
                u--;
            }
            return u;
        }

        /** Sums CURRENT of all lines for each u from low to high. */
        void sumCurrents(int low, int high) {
            lowest = low;
            Arrays.fill(sums, 0);
            for (int line = 0; line < lines; line++) {
                for (int c = 0; c < CURRENTS; c++) {
                    lay(linePush, c, pushOfLine(line, c * MOST_PARTS));
                }
                addLineCurrents(low, high);
            }
        }

        /** PUSH of a line never rises with c, so that its CURRENT only grows while u falls. */
        private void addLineCurrents(int low, int high) {
            int c = 0;
            for (int u = high; u >= low; u--) {
                while (c + 1 < CURRENTS && at(linePush, c + 1) >= u) {
                    c++;
                }
                lay(sums, u - low, at(sums, u - low) + c);
            }
        }

        int currentAt(int u) {
            return at(sums, u - lowest);
        }

        int powerAt(int u) {
            return u * currentAt(u);
        }

        /** Draws all, and finds BEST; powerAt then answers for u 0 .. 500. */
        void findBest() {
            drawAll();
            sumCurrents(0, TOP);
            chooseBest();
        }

        private void chooseBest() {
            bestPower = 0;
            bestPush = 0;
            for (int u = 0; u <= TOP; u++) {
                if (powerAt(u) > bestPower) {
                    bestPower = powerAt(u);
                    bestPush = u;
                }
            }
        }

        /** The u of the i-th HUMP; how many there are for -1. */
        int humpAt(int i) {
            int found = 0;
            int next = 0;
            for (int u = 1; u < TOP; u = next) {
                next = u + 1;
                while (next <= TOP && powerAt(next) == powerAt(u)) {
                    next++;
                }
                int behind = next > TOP ? 0 : powerAt(next);
                if (powerAt(u) > powerAt(u - 1) && powerAt(u) > behind) {
                    if (found == i) {
                        return u;
                    }
                    found++;
                }
            }
            return i < 0 ? found : NONE;
        }

        int dimmest() {
            int least = 0;
            for (int j = 1; j < cells; j++) {
                if (at(pushes, CURRENTS * MOST_PARTS + j) < at(pushes, CURRENTS * MOST_PARTS + least)) {
                    least = j;
                }
            }
            return at(cell, least);
        }

        int passes() {
            int sum = 0;
            for (int g = 0; g < groups; g++) {
                int together = 0;
                for (int j = 0; j < cells; j++) {
                    together += at(group, j) == g ? at(pushes, CURRENTS * MOST_PARTS + j) : 0;
                }
                sum += at(diode, g) != 0 && together < -1 ? 1 : 0;
            }
            return sum;
        }

        int hot(int c) {
            int sum = 0;
            for (int j = 0; j < cells; j++) {
                sum += c > at(currentNow, j * MOST_POINTS) ? 1 : 0;
            }
            return sum;
        }

        /** The set of CELLS in the second ROW of the best PARTING. */
        int findParting() {
            drawAll();
            int mostPower = -1;
            int chosen = 0;
            int all = (1 << cells) - 1;
            for (int second = 2; second <= all; second += 2) {
                lowest = 0;
                Arrays.fill(sums, 0);
                addChosen(second);
                addChosen(all - second);
                chooseBest();
                if (bestPower > mostPower) {
                    mostPower = bestPower;
                    chosen = second;
                }
            }
            bestPower = mostPower;
            return chosen;
        }

        private void addChosen(int chosen) {
            for (int c = 0; c < CURRENTS; c++) {
                int sum = 0;
                for (int j = 0; j < cells; j++) {
                    sum += (chosen >> j & 1) != 0 ? at(pushes, c * MOST_PARTS + j) : 0;
                }
                lay(linePush, c, sum);
            }
            addLineCurrents(0, TOP);
        }

        int faultsThatMayBe() {
            return 1 + cells + diodes();
        }

        /** Puts FAULT f into what is spread out. */
        void suffer(int f) {
            if (f >= 1 && f <= cells) {
                lay(gone, f - 1, at(gone, f - 1) + 1);
                drawCell(f - 1);
            } else if (f > cells) {
                lay(diode, groupOfDiode(f - cells - 1), 0);
            }
        }

        /** Takes FAULT f out again; g is the group that it concerned, as groupOfDiode told it ahead. */
        void recover(int f, int g) {
            if (f >= 1 && f <= cells) {
                lay(gone, f - 1, at(gone, f - 1) - 1);
                drawCell(f - 1);
            } else if (f > cells) {
                lay(diode, g, 1);
            }
        }

        int groupOfDiode(int wanted) {
            int passed = 0;
            for (int g = 0; g < groups; g++) {
                if (at(diode, g) != 0) {
                    if (passed == wanted) {
                        return g;
                    }
                    passed++;
                }
            }
            return -1;
        }
    }

    /** BEST WASHING, planned from the last DAY to the first. */
    private static final class Washing {
        private int days = 0;
        /** By a DAY that begins clean: the most from it on, the washings for that, the DAY of the next one. */
        final int[] most = new int[MOST_WASH_DAYS + 1];
        private final int[] washings = new int[MOST_WASH_DAYS + 1];
        private final int[] next = new int[MOST_WASH_DAYS + 1];

        void plan(Shelf gains, int rate, int price) {
            days = gains.size;
            lay(most, days, 0);
            lay(washings, days, 0);
            lay(next, days, days);
            for (int clean = days - 1; clean >= 0; clean--) {
                planFrom(clean, gains, rate, price);
            }
        }

        /** Goes through the DAYS on which it may wash next, ever later ones, so that of equals the last one stays. */
        private void planFrom(int clean, Shelf gains, int rate, int price) {
            int given = 0;
            boolean any = false;
            for (int until = clean + 1; until <= days; until++) {
                int dirt = Math.min((until - 1 - clean) * rate, MOST_DIRT);
                given += at(gains.elements, until - 1) * (100 - dirt) / 100;
                boolean washes = until < days;
                int made = given + at(most, until) - (washes ? price : 0);
                int times = at(washings, until) + (washes ? 1 : 0);
                boolean better = made > at(most, clean) || made == at(most, clean) && times <= at(washings, clean);
                if (!any || better) {
                    lay(most, clean, made);
                    lay(washings, clean, times);
                    lay(next, clean, until);
                    any = true;
                }
            }
        }

        /** The i-th DAY on which it washes; how many there are for -1. */
        int washDay(int i) {
            if (i < 0) {
                return at(washings, 0);
            }
            if (i >= at(washings, 0)) {
                return NONE;
            }
            int day = at(next, 0);
            for (int k = 0; k < i; k++) {
                day = at(next, day);
            }
            return day;
        }
    }

    /** The FAULTS that would give what was MEASURED, and the look that parts them best. */
    private static final class Diagnosis {
        private int fitting = 0;
        private final int[] fault = new int[MOST_FAULTS];
        private final int[] seen = new int[MOST_FAULTS * LOOKS];
        private final int[] alike = new int[MOST_IN_FIELD * CURRENTS];

        void find(Bench bench, Shelf measured) {
            fitting = 0;
            int all = bench.faultsThatMayBe();
            for (int f = 0; f < all; f++) {
                int g = bench.groupOfDiode(f - bench.cells - 1);
                bench.suffer(f);
                bench.sumCurrents(LEAST_BYTE, GREATEST_BYTE);
                if (agrees(bench, measured)) {
                    note(bench, f);
                }
                bench.recover(f, g);
            }
        }

        private static boolean agrees(Bench bench, Shelf measured) {
            for (int i = 0; i + 1 < measured.size; i += 2) {
                if (bench.currentAt(at(measured.elements, i)) != at(measured.elements, i + 1)) {
                    return false;
                }
            }
            return true;
        }

        private void note(Bench bench, int f) {
            lay(fault, fitting, f);
            for (int u = 0; u < LOOKS; u++) {
                lay(seen, fitting * LOOKS + u, bench.currentAt(u));
            }
            fitting++;
        }

        /** The i-th FAULT that fits; how many do for -1. */
        int fitting(int i) {
            return i < 0 ? fitting : i < fitting ? at(fault, i) : NONE;
        }

        int nextLook() {
            if (fitting == 0) {
                return NONE;
            }
            int chosen = 0;
            int least = fitting + 1;
            for (int u = 0; u < LOOKS; u++) {
                int greatest = greatestGroup(u);
                if (greatest < least) {
                    least = greatest;
                    chosen = u;
                }
            }
            return chosen;
        }

        private int greatestGroup(int u) {
            Arrays.fill(alike, 0);
            int greatest = 0;
            for (int k = 0; k < fitting; k++) {
                int current = at(seen, k * LOOKS + u);
                lay(alike, current, at(alike, current) + 1);
                greatest = Math.max(greatest, at(alike, current));
            }
            return greatest;
        }
    }
}
