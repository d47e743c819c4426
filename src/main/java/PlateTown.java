import java.util.Arrays;
import java.util.NoSuchElementException;

/** A town on a plate that turns. What it must do stands in ../shared/DOC.md; words in capitals are told there. */
public final class PlateTown {
    public static final int NONE = -1;

    private static final int YEARS = 100;
    private static final int HOURS = 13;
    private static final int NOON_HOUR = 6;
    private static final int HIGHEST = 30;
    private static final int FASTEST = 48;
    private static final int MOST_NUMBER = 20;
    private static final int MOST_TEXTS = 12;
    private static final int TOO_MANY_HOUSES = -3;

    private final Tape tape;
    private final TownText townText;
    private final LeaseText leaseText;
    private final WalkText walkText;
    private final Town now;
    private final Town draft;
    private final Town kept;
    private final Almanac almanac;
    private final Clerk clerk;
    private final Exchange exchange;
    private boolean isKept;
    private int wrongByte;

    public PlateTown() {
        tape = new Tape();
        now = new Town();
        draft = new Town();
        kept = new Town();
        townText = new TownText(draft);
        leaseText = new LeaseText();
        walkText = new WalkText();
        almanac = new Almanac(now);
        clerk = new Clerk();
        exchange = new Exchange(now, almanac);
        isKept = false;
        wrongByte = NONE;
    }

    public int feed(int a, int b, int c, int d, int e) {
        if (tape.size() + 20 > Tape.LIMIT) {
            return NONE;
        }
        tape.append(a);
        tape.append(b);
        tape.append(c);
        tape.append(d);
        tape.append(e);
        return tape.size();
    }

    public boolean end(int n) {
        return tape.cut(n);
    }

    public int town() throws IllegalArgumentException, UnsupportedOperationException {
        townText.takeFrom(tape);
        draft.copyFrom(now);
        wrongByte = townText.wrongIn();
        needRightText();
        needRoom(now.texts < MOST_TEXTS);
        draft.texts++;
        now.copyFrom(draft);
        return now.texts;
    }

    public int lease() throws IllegalArgumentException, UnsupportedOperationException {
        leaseText.takeFrom(tape);
        leaseText.beginAnew();
        wrongByte = leaseText.wrongIn();
        needRightText();
        needRoom(now.leaseCount < Town.MOST_LEASES);
        return now.addLease(leaseText.copyOfCode());
    }

    public int fault() {
        return wrongByte;
    }

    public int look(int house, int what) throws IndexOutOfBoundsException, NoSuchElementException {
        needHouse(house);
        switch (what) {
            case 0:
                return now.cellOf(house);
            case 1:
                return now.heightOf(house);
            case 2:
                return now.windowsOf(house);
            case 3:
                return now.familyIn(house);
            default:
                throw new NoSuchElementException();
        }
    }

    public int angle(int year) throws IndexOutOfBoundsException {
        needYear(year);
        almanac.open();
        return almanac.angleIn(year);
    }

    public int stop() {
        almanac.open();
        return almanac.stopYear();
    }

    public int rope(int year, int n) throws IndexOutOfBoundsException, IllegalArgumentException {
        needYear(year);
        if (n < 0 || n > MOST_NUMBER) {
            throw new IllegalArgumentException();
        }
        int before = now.ropesIn(year);
        now.setRopes(year, n);
        return before;
    }

    public boolean lit(int window, int hour, int year) throws IndexOutOfBoundsException {
        needWindow(window);
        needHour(hour);
        needYear(year);
        almanac.open();
        return almanac.isLit(window, hour, year);
    }

    public int light(int window, int from, int to) throws IndexOutOfBoundsException, IllegalArgumentException {
        needWindow(window);
        needYears(from, to);
        almanac.open();
        return almanac.lightOfWindow(window, from, to);
    }

    public int bright(int house, int year) throws IndexOutOfBoundsException {
        needHouse(house);
        needYear(year);
        almanac.open();
        return almanac.lightOfHouse(house, year);
    }

    public int houses(int year, int what) throws IndexOutOfBoundsException, NoSuchElementException {
        needYear(year);
        if (what < 0 || what > 2) {
            throw new NoSuchElementException();
        }
        almanac.open();
        int bits = 0;
        for (int house = 0; house < now.houses.size(); house++) {
            boolean holds = what == 0 ? almanac.isInFrost(house, year)
                    : what == 1 ? almanac.isWindy(house, year) : almanac.hasNoon(house, year);
            bits |= holds ? 1 << house : 0;
        }
        return bits;
    }

    public int rent(int lease, int house, int year) throws IndexOutOfBoundsException {
        needLease(lease);
        needHouse(house);
        needYear(year);
        almanac.open();
        return rentIn(lease, house, year);
    }

    public int let(int lease, int house, int from, int to)
            throws IndexOutOfBoundsException, IllegalArgumentException, UnsupportedOperationException {
        needLease(lease);
        needHouse(house);
        needYears(from, to);
        needRoom(now.lets.hasRoom());
        return now.lets.add(from, to, house, lease);
    }

    public int due(int let) throws IndexOutOfBoundsException {
        needThere(now.lets.has(let));
        int house = now.lets.get(let, Town.LET_HOUSE);
        int lease = now.lets.get(let, Town.LET_LEASE);
        int to = now.lets.get(let, Town.TO);
        almanac.open();
        int sum = 0;
        for (int year = now.lets.get(let, Town.FROM); year <= to && year < YEARS; year++) {
            sum += rentIn(lease, house, year);
        }
        return sum;
    }

    public int promise(int window, int from, int to)
            throws IndexOutOfBoundsException, IllegalArgumentException, UnsupportedOperationException {
        needWindow(window);
        needYears(from, to);
        needRoom(now.promises.hasRoom());
        return now.promises.add(from, to, window, 0);
    }

    public int broken(int promise) throws IndexOutOfBoundsException {
        needThere(now.promises.has(promise));
        int window = now.promises.get(promise, Town.PROMISE_WINDOW);
        int to = now.promises.get(promise, Town.TO);
        almanac.open();
        for (int year = now.promises.get(promise, Town.FROM); year <= to && year < YEARS; year++) {
            if (!almanac.isLit(window, NOON_HOUR, year)) {
                return year;
            }
        }
        return NONE;
    }

    public int twice() {
        int pairs = 0;
        for (int second = 1; second < now.promises.size(); second++) {
            for (int first = 0; first < second; first++) {
                pairs += areForOneHouse(first, second) && haveYearInCommon(first, second) ? 1 : 0;
            }
        }
        return pairs;
    }

    public int level(int cell, int year) throws IndexOutOfBoundsException {
        needCell(cell);
        needYear(year);
        almanac.open();
        return almanac.levelOf(cell, year);
    }

    public int drain(int from, int to)
            throws IndexOutOfBoundsException, IllegalArgumentException, UnsupportedOperationException {
        needCell(from);
        needCell(to);
        if (from == to) {
            throw new IllegalArgumentException();
        }
        needRoom(now.drains.hasRoom());
        return now.drains.add(from, to, 0, 0);
    }

    public boolean runs(int drain, int year) throws IndexOutOfBoundsException {
        needThere(now.drains.has(drain));
        needYear(year);
        almanac.open();
        return almanac.doesRun(drain, year);
    }

    public int uphill(int drain, boolean first) throws IndexOutOfBoundsException {
        needThere(now.drains.has(drain));
        almanac.open();
        int row = 0;
        int longest = 0;
        int begin = NONE;
        for (int year = 0; year < YEARS; year++) {
            row = almanac.doesRun(drain, year) ? 0 : row + 1;
            if (row > longest) {
                longest = row;
                begin = year - row + 1;
            }
        }
        return first ? begin : longest;
    }

    public int pool(int cell, int year) throws IndexOutOfBoundsException {
        needCell(cell);
        needYear(year);
        almanac.open();
        return almanac.poolFrom(cell, year);
    }

    public int name(int direction, int year, boolean until) throws IndexOutOfBoundsException {
        needThere(direction >= 0 && direction < Plate.DIRECTIONS);
        needYear(year);
        almanac.open();
        int called = Plate.nameOf(direction, almanac.angleIn(year));
        if (!until) {
            return called;
        }
        int last = year;
        while (last + 1 < YEARS && Plate.nameOf(direction, almanac.angleIn(last + 1)) == called) {
            last++;
        }
        return last;
    }

    public int walk(int cell, int year) throws IndexOutOfBoundsException, IllegalArgumentException {
        walkText.takeFrom(tape);
        needCell(cell);
        needYear(year);
        almanac.open();
        walkText.setOut(cell, almanac.angleIn(year));
        wrongByte = walkText.wrongIn();
        needRightText();
        return walkText.place();
    }

    public int build(int house, int more) throws IndexOutOfBoundsException, IllegalArgumentException {
        needHouse(house);
        needHeight(house, more);
        now.raise(house, more);
        return now.heightOf(house);
    }

    public int undo() {
        return now.unraise();
    }

    public int lost(int house, int more, int window, int from, int to)
            throws IndexOutOfBoundsException, IllegalArgumentException {
        needHouse(house);
        needWindow(window);
        needYears(from, to);
        needHeight(house, more);
        return lightLost(house, more, window, from, to);
    }

    public int takes(int house, int more, int from, int to)
            throws IndexOutOfBoundsException, IllegalArgumentException {
        needHouse(house);
        needYears(from, to);
        needHeight(house, more);
        int bits = 0;
        for (int window = 0; window < now.windows.size(); window++) {
            bits |= lightLost(house, more, window, from, to) > 0 ? 1 << window : 0;
        }
        return bits;
    }

    public int gable(int house, int window, int from, int to)
            throws IndexOutOfBoundsException, IllegalArgumentException {
        needHouse(house);
        needWindow(window);
        needYears(from, to);
        int most = HIGHEST - now.heightOf(house);
        int more = 0;
        // A higher HOUSE never shades less, so the greatest number can be put together bit by bit.
        for (int bit = 16; bit > 0; bit /= 2) {
            if (more + bit <= most && lightLost(house, more + bit, window, from, to) == 0) {
                more += bit;
            }
        }
        return more;
    }

    public void wants(int family, int from, int to) throws IndexOutOfBoundsException, IllegalArgumentException {
        needFamily(family);
        needYears(from, to);
        now.families.set(family, Town.FROM, from);
        now.families.set(family, Town.TO, to);
    }

    public int good(int family, int house) throws IndexOutOfBoundsException {
        needFamily(family);
        needHouse(house);
        int to = now.families.get(family, Town.TO);
        almanac.open();
        int sum = 0;
        for (int year = now.families.get(family, Town.FROM); year <= to && year < YEARS; year++) {
            sum += almanac.lightOfHouse(house, year);
        }
        return sum;
    }

    public int swaps(int family, int what) throws IndexOutOfBoundsException, NoSuchElementException {
        if (family != NONE) {
            needFamily(family);
        }
        if (what < 0 || what > 1) {
            throw new NoSuchElementException();
        }
        if (now.houses.size() > Exchange.MOST) {
            return TOO_MANY_HOUSES;
        }
        exchange.search();
        if (family != NONE) {
            return exchange.bestHome(family);
        }
        return what == 0 ? exchange.wayCount() : exchange.mostGood();
    }

    public int move() {
        if (now.houses.size() > Exchange.MOST) {
            return TOO_MANY_HOUSES;
        }
        exchange.search();
        int moved = 0;
        for (int family = 0; family < now.families.size(); family++) {
            int home = exchange.bestHome(family);
            moved += home == now.homeOf(family) ? 0 : 1;
            now.families.set(family, Town.HOME, home);
        }
        return moved;
    }

    public int left() {
        almanac.open();
        int year = almanac.stopYear();
        int bits = 0;
        for (int house = 0; house < now.houses.size(); house++) {
            bits |= almanac.isInFrost(house, year) ? 1 << house : 0;
        }
        return bits;
    }

    public int paper(int window, int hour, boolean lit)
            throws IndexOutOfBoundsException, UnsupportedOperationException {
        needWindow(window);
        needHour(hour);
        needRoom(now.papers.hasRoom());
        now.papers.add(window, hour, lit ? 1 : 0, 0);
        return now.papers.size();
    }

    public int years(int k) throws IllegalArgumentException {
        if (k < NONE) {
            throw new IllegalArgumentException();
        }
        almanac.open();
        int fitting = 0;
        for (int year = 0; year < YEARS; year++) {
            if (almanac.fitsPapers(year)) {
                if (fitting == k) {
                    return year;
                }
                fitting++;
            }
        }
        return k == NONE ? fitting : NONE;
    }

    public int push(int window, int year, int other) throws IndexOutOfBoundsException {
        needWindow(window);
        needYear(year);
        needYear(other);
        for (int more = 0; more <= FASTEST; more++) {
            almanac.openPulled(year, more);
            if (almanac.isLit(window, NOON_HOUR, other)) {
                return more;
            }
        }
        return NONE;
    }

    public int blow(int seed) {
        int drawn = seed;
        int sum = 0;
        for (int year = 0; year < YEARS; year++) {
            drawn = 1103515245 * drawn + 12345;
            int wind = (drawn >>> 16 & 0x7FFF) % 11 - 5;
            now.setWind(year, wind);
            sum += wind;
        }
        return sum;
    }

    public void image() {
        kept.copyFrom(now);
        isKept = true;
    }

    public boolean back() {
        if (!isKept) {
            return false;
        }
        now.copyFrom(kept);
        return true;
    }

    public int count(int what) {
        switch (what) {
            case 0:
                return now.houses.size();
            case 1:
                return now.windows.size();
            case 2:
                return now.leaseCount;
            case 3:
                return now.texts;
            case 4:
                return now.lets.size();
            case 5:
                return now.promises.size();
            case 6:
                return now.drains.size();
            case 7:
                return now.papers.size();
            case 8:
                return now.buildings.size();
            case 9:
                return now.load();
            default:
                return NONE;
        }
    }

    /** By the almanac as it is open. */
    private int rentIn(int lease, int house, int year) {
        almanac.tellFacts(house, year, clerk.facts);
        return clerk.rentBy(now.leaseCode(lease));
    }

    private int lightLost(int house, int more, int window, int from, int to) {
        almanac.open();
        int before = almanac.lightOfWindow(window, from, to);
        almanac.raise(house, more);
        return before - almanac.lightOfWindow(window, from, to);
    }

    private boolean areForOneHouse(int first, int second) {
        int firstWindow = now.promises.get(first, Town.PROMISE_WINDOW);
        int secondWindow = now.promises.get(second, Town.PROMISE_WINDOW);
        return now.houseOf(firstWindow) == now.houseOf(secondWindow);
    }

    private boolean haveYearInCommon(int first, int second) {
        return now.promises.get(first, Town.FROM) <= now.promises.get(second, Town.TO)
                && now.promises.get(second, Town.FROM) <= now.promises.get(first, Town.TO);
    }

    private static void needThere(boolean isThere) {
        if (!isThere) {
            throw new IndexOutOfBoundsException();
        }
    }

    private static void needCell(int cell) {
        needThere(cell >= 0 && cell < Plate.CELLS);
    }

    private static void needYear(int year) {
        needThere(year >= 0 && year < YEARS);
    }

    private static void needHour(int hour) {
        needThere(hour >= 0 && hour < HOURS);
    }

    private void needHouse(int house) {
        needThere(now.houses.has(house));
    }

    private void needFamily(int family) {
        needThere(now.families.has(family));
    }

    private void needWindow(int window) {
        needThere(now.windows.has(window));
    }

    private void needLease(int lease) {
        needThere(lease >= 0 && lease < now.leaseCount);
    }

    private static void needYears(int from, int to) {
        needYear(from);
        needYear(to);
        if (to < from) {
            throw new IllegalArgumentException();
        }
    }

    private void needHeight(int house, int more) {
        if (more < 1 || more >= HIGHEST || now.heightOf(house) + more > HIGHEST) {
            throw new IllegalArgumentException();
        }
    }

    private void needRightText() {
        if (wrongByte != NONE) {
            throw new IllegalArgumentException();
        }
    }

    private static void needRoom(boolean hasRoom) {
        if (!hasRoom) {
            throw new UnsupportedOperationException();
        }
    }

    /** How CELLS lie on the plate, and PARTS around it. */
    private static final class Plate {
        static final int SIDE = 9;
        static final int CELLS = 81;
        static final int MIDDLE = 4;
        static final int DIRECTIONS = 8;
        static final int PARTS = 96;
        private static final int WIDTH = 12;
        private static final int[] STEPS_X = {0, 1, 1, 1, 0, -1, -1, -1};
        private static final int[] STEPS_Y = {1, 1, 0, -1, -1, -1, 0, 1};

        private Plate() {
        }

        static int stepX(int direction) {
            return direction >= 0 && direction < STEPS_X.length ? STEPS_X[direction] : 0;
        }

        static int stepY(int direction) {
            return direction >= 0 && direction < STEPS_Y.length ? STEPS_Y[direction] : 0;
        }

        /** The DIRECTION on the plate of what lies towards a PART. */
        static int directionOf(int part, int angle) {
            return (Math.floorMod(part - angle, PARTS) + WIDTH / 2) / WIDTH % DIRECTIONS;
        }

        static int nameOf(int direction, int angle) {
            return (WIDTH * direction + angle + WIDTH / 2) / WIDTH % DIRECTIONS;
        }

        /** The CELL so many off in a DIRECTION; NONE beyond the edge. */
        static int cellOff(int cell, int direction, int off) {
            int x = cell % SIDE + off * stepX(direction);
            int y = cell / SIDE + off * stepY(direction);
            return x >= 0 && x < SIDE && y >= 0 && y < SIDE ? SIDE * y + x : NONE;
        }
    }

    /** The bytes that wait to be read as a text. */
    private static final class Tape {
        static final int LIMIT = 400;
        private final int[] bytes;
        private int size;

        Tape() {
            bytes = new int[LIMIT];
            size = 0;
        }

        int size() {
            return size;
        }

        int at(int place) {
            return place >= 0 && place < size && place < bytes.length ? bytes[place] : NONE;
        }

        void append(int number) {
            for (int shift = 24; shift >= 0; shift -= 8) {
                if (size >= 0 && size < bytes.length) {
                    bytes[size] = number >>> shift & 255;
                    size++;
                }
            }
        }

        boolean cut(int newSize) {
            if (newSize < 0 || newSize > size) {
                return false;
            }
            size = newSize;
            return true;
        }
    }

    /** Rows of numbers, up to a limit. */
    private static final class Table {
        private final int limit;
        private final int width;
        private final int[] fields;
        private int rows;

        Table(int limit, int width) {
            this.limit = limit;
            this.width = width;
            fields = new int[Math.max(0, limit * width)];
            rows = 0;
        }

        int size() {
            return rows;
        }

        boolean has(int row) {
            return row >= 0 && row < rows;
        }

        boolean hasRoom() {
            return rows < limit;
        }

        int get(int row, int column) {
            int place = row * width + column;
            return row >= 0 && row < rows && place >= 0 && place < fields.length ? fields[place] : NONE;
        }

        /** What is beyond the width of the table is not kept. */
        void set(int row, int column, int value) {
            int place = row * width + column;
            if (row >= 0 && row < rows && column < width && place >= 0 && place < fields.length) {
                fields[place] = value;
            }
        }

        /** The new row; NONE without room. */
        int add(int first, int second, int third, int fourth) {
            if (!hasRoom()) {
                return NONE;
            }
            int row = rows;
            rows++;
            set(row, 0, first);
            set(row, 1, second);
            set(row, 2, third);
            set(row, 3, fourth);
            return row;
        }

        void dropFirst() {
            for (int i = 0; i + width < fields.length; i++) {
                fields[i] = fields[i + width];
            }
            dropLast();
        }

        void dropLast() {
            rows = Math.max(0, rows - 1);
        }

        void copyFrom(Table other) {
            rows = other.rows;
            for (int i = 0; i < fields.length && i < other.fields.length; i++) {
                fields[i] = other.fields[i];
            }
        }
    }

    /** All that THE IMAGE keeps. */
    private static final class Town {
        static final int MOST_LEASES = 6;
        static final int MOST_BUILDINGS = 20;

        static final int START = 0;
        static final int RATE = 1;
        static final int BAR = 2;
        static final int SEA = 3;
        static final int GUSTS = 4;

        static final int HOUSE_CELL = 0;
        static final int HOUSE_HEIGHT = 1;
        static final int WINDOW_HOUSE = 0;
        static final int WINDOW_FACING = 1;
        static final int WINDOW_UP = 2;
        /** YEARS of LETS, PROMISES and FAMILIES, and CELLS of DRAINS. */
        static final int FROM = 0;
        static final int TO = 1;
        static final int HOME = 2;
        static final int LET_HOUSE = 2;
        static final int LET_LEASE = 3;
        static final int PROMISE_WINDOW = 2;
        static final int PAPER_WINDOW = 0;
        static final int PAPER_HOUR = 1;
        static final int PAPER_LIT = 2;
        static final int BUILDING_HOUSE = 0;
        static final int BUILDING_MORE = 1;

        final Table houses;
        final Table windows;
        final Table families;
        final Table lets;
        final Table promises;
        final Table drains;
        final Table papers;
        final Table buildings;
        private final int[] dials;
        private final int[] wind;
        private final int[] ropes;
        private final int[][] leases;
        int leaseCount;
        int texts;

        Town() {
            houses = new Table(10, 2);
            windows = new Table(20, 3);
            families = new Table(10, 3);
            lets = new Table(16, 4);
            promises = new Table(16, 3);
            drains = new Table(8, 2);
            papers = new Table(16, 3);
            buildings = new Table(MOST_BUILDINGS, 2);
            dials = new int[] {0, 3, NONE, 48, 72};
            wind = new int[YEARS];
            ropes = new int[YEARS];
            leases = new int[MOST_LEASES][];
            leaseCount = 0;
            texts = 0;
        }

        int dial(int which) {
            return which >= 0 && which < dials.length ? dials[which] : NONE;
        }

        void setDial(int which, int value) {
            if (which >= 0 && which < dials.length) {
                dials[which] = value;
            }
        }

        int windIn(int year) {
            return year >= 0 && year < wind.length ? wind[year] : 0;
        }

        void setWind(int year, int value) {
            if (year >= 0 && year < wind.length) {
                wind[year] = value;
            }
        }

        int ropesIn(int year) {
            return year >= 0 && year < ropes.length ? ropes[year] : 0;
        }

        void setRopes(int year, int value) {
            if (year >= 0 && year < ropes.length) {
                ropes[year] = value;
            }
        }

        int[] leaseCode(int lease) {
            return lease >= 0 && lease < leases.length ? leases[lease] : null;
        }

        int addLease(int[] code) {
            int lease = leaseCount;
            if (lease >= 0 && lease < leases.length) {
                leases[lease] = code;
                leaseCount++;
            }
            return lease;
        }

        /** With the FAMILY that lives in it at first. */
        void addHouse(int cell, int height) {
            int house = houses.add(cell, height, 0, 0);
            families.add(0, YEARS - 1, house, 0);
        }

        int cellOf(int house) {
            return houses.get(house, HOUSE_CELL);
        }

        int heightOf(int house) {
            return houses.get(house, HOUSE_HEIGHT);
        }

        int houseOf(int window) {
            return windows.get(window, WINDOW_HOUSE);
        }

        int homeOf(int family) {
            return families.get(family, HOME);
        }

        boolean hasHouseOn(int cell) {
            for (int house = 0; house < houses.size(); house++) {
                if (cellOf(house) == cell) {
                    return true;
                }
            }
            return false;
        }

        int windowsOf(int house) {
            int found = 0;
            for (int window = 0; window < windows.size(); window++) {
                found += houseOf(window) == house ? 1 : 0;
            }
            return found;
        }

        int familyIn(int house) {
            for (int family = 0; family < families.size(); family++) {
                if (homeOf(family) == house) {
                    return family;
                }
            }
            return NONE;
        }

        int load() {
            int heights = 0;
            for (int house = 0; house < houses.size(); house++) {
                heights += heightOf(house);
            }
            return heights / 40;
        }

        void raise(int house, int more) {
            houses.set(house, HOUSE_HEIGHT, heightOf(house) + more);
            if (!buildings.hasRoom()) {
                buildings.dropFirst();
            }
            buildings.add(house, more, 0, 0);
        }

        /** Undoes the latest building: its HOUSE, or NONE. */
        int unraise() {
            int last = buildings.size() - 1;
            if (last < 0) {
                return NONE;
            }
            int house = buildings.get(last, BUILDING_HOUSE);
            houses.set(house, HOUSE_HEIGHT, heightOf(house) - buildings.get(last, BUILDING_MORE));
            buildings.dropLast();
            return house;
        }

        int nextAngle(int angle, int year, int pull) {
            int turn = Math.max(0, Math.min(FASTEST, dial(RATE) + windIn(year) + ropesIn(year) + pull));
            int bar = dial(BAR);
            if (bar != NONE && Math.floorMod(bar - angle, Plate.PARTS) <= turn) {
                return bar;
            }
            return (angle + turn) % Plate.PARTS;
        }

        void copyFrom(Town other) {
            houses.copyFrom(other.houses);
            windows.copyFrom(other.windows);
            families.copyFrom(other.families);
            lets.copyFrom(other.lets);
            promises.copyFrom(other.promises);
            drains.copyFrom(other.drains);
            papers.copyFrom(other.papers);
            buildings.copyFrom(other.buildings);
            for (int i = 0; i < dials.length; i++) {
                dials[i] = other.dial(i);
            }
            for (int year = 0; year < YEARS; year++) {
                setWind(year, other.windIn(year));
                setRopes(year, other.ropesIn(year));
            }
            for (int lease = 0; lease < leases.length; lease++) {
                leases[lease] = other.leaseCode(lease);
            }
            leaseCount = other.leaseCount;
            texts = other.texts;
        }
    }

    /** What the turning makes of a town, year by year: true from open() until the town changes. */
    private static final class Almanac {
        private static final int GUST_CELLS = 3;
        private final Town town;
        private final int[] angles;
        private final int[] heights;

        Almanac(Town town) {
            this.town = town;
            angles = new int[YEARS];
            heights = new int[Plate.CELLS];
        }

        void open() {
            openPulled(NONE, 0);
        }

        /** As if ROPES of one YEAR were so much more. */
        void openPulled(int pulled, int more) {
            int load = town.load();
            int angle = town.dial(Town.START);
            for (int year = 0; year < angles.length; year++) {
                angles[year] = angle;
                angle = town.nextAngle(angle, year, year == pulled ? more - load : -load);
            }
            for (int cell = 0; cell < heights.length; cell++) {
                heights[cell] = 0;
            }
            for (int house = 0; house < town.houses.size(); house++) {
                raise(house, town.heightOf(house));
            }
        }

        /** From now on a HOUSE shades as if it were so much higher; ANGLES stay as they are. */
        void raise(int house, int more) {
            int cell = town.cellOf(house);
            if (cell >= 0 && cell < heights.length) {
                heights[cell] += more;
            }
        }

        int angleIn(int year) {
            return year >= 0 && year < angles.length ? angles[year] : 0;
        }

        int stopYear() {
            int year = angles.length - 1;
            while (year > 0 && angleIn(year - 1) == angleIn(year)) {
                year--;
            }
            return year;
        }

        boolean isLit(int window, int hour, int year) {
            int sun = Plate.directionOf(24 + 4 * hour, angleIn(year));
            int aside = Math.floorMod(sun - town.windows.get(window, Town.WINDOW_FACING), Plate.DIRECTIONS);
            if (aside > 1 && aside < Plate.DIRECTIONS - 1) {
                return false;
            }
            int high = 1 + Math.min(hour, HOURS - 1 - hour);
            int cell = town.cellOf(town.houseOf(window));
            return !isShaded(cell, town.windows.get(window, Town.WINDOW_UP), sun, high);
        }

        private boolean isShaded(int cell, int up, int direction, int high) {
            int stepX = Plate.stepX(direction);
            int stepY = Plate.stepY(direction);
            int x = cell % Plate.SIDE;
            int y = cell / Plate.SIDE;
            for (int off = 1; off < Plate.SIDE; off++) {
                x += stepX;
                y += stepY;
                if (x < 0 || x >= Plate.SIDE || y < 0 || y >= Plate.SIDE) {
                    return false;
                }
                if (heightOn(Plate.SIDE * y + x) - up > off * high) {
                    return true;
                }
            }
            return false;
        }

        /** 0 where there is no HOUSE. */
        private int heightOn(int cell) {
            return cell >= 0 && cell < heights.length ? heights[cell] : 0;
        }

        private int lightIn(int window, int year) {
            int hours = 0;
            for (int hour = 0; hour < HOURS; hour++) {
                hours += isLit(window, hour, year) ? 1 : 0;
            }
            return hours;
        }

        int lightOfWindow(int window, int from, int to) {
            int hours = 0;
            for (int year = from; year <= to && year < YEARS; year++) {
                hours += lightIn(window, year);
            }
            return hours;
        }

        int lightOfHouse(int house, int year) {
            int hours = 0;
            for (int window = 0; window < town.windows.size(); window++) {
                if (town.houseOf(window) == house) {
                    hours += lightIn(window, year);
                }
            }
            return hours;
        }

        boolean isInFrost(int house, int year) {
            return lightOfHouse(house, year) == 0;
        }

        boolean hasNoon(int house, int year) {
            for (int window = 0; window < town.windows.size(); window++) {
                if (town.houseOf(window) == house && isLit(window, NOON_HOUR, year)) {
                    return true;
                }
            }
            return false;
        }

        boolean isWindy(int house, int year) {
            int direction = Plate.directionOf(town.dial(Town.GUSTS), angleIn(year));
            int cell = town.cellOf(house);
            for (int off = 1; off <= GUST_CELLS; off++) {
                if (heightOn(Plate.cellOff(cell, direction, off)) >= town.heightOf(house)) {
                    return false;
                }
            }
            return true;
        }

        int levelOf(int cell, int year) {
            int sea = Plate.directionOf(town.dial(Town.SEA), angleIn(year));
            int x = cell % Plate.SIDE - Plate.MIDDLE;
            int y = cell / Plate.SIDE - Plate.MIDDLE;
            return -(x * Plate.stepX(sea) + y * Plate.stepY(sea));
        }

        boolean doesRun(int drain, int year) {
            return levelOf(town.drains.get(drain, Town.TO), year)
                    < levelOf(town.drains.get(drain, Town.FROM), year);
        }

        int poolFrom(int cell, int year) {
            int sea = Plate.directionOf(town.dial(Town.SEA), angleIn(year));
            int place = cell;
            for (int i = 1; i < Plate.SIDE; i++) {
                int next = Plate.cellOff(place, sea, 1);
                if (next == NONE || heightOn(next) > 0) {
                    return place;
                }
                place = next;
            }
            return place;
        }

        boolean fitsPapers(int year) {
            for (int paper = 0; paper < town.papers.size(); paper++) {
                int window = town.papers.get(paper, Town.PAPER_WINDOW);
                int hour = town.papers.get(paper, Town.PAPER_HOUR);
                if (isLit(window, hour, year) != (town.papers.get(paper, Town.PAPER_LIT) == 1)) {
                    return false;
                }
            }
            return true;
        }

        /** In the order of the words of a LEASE. */
        void tellFacts(int house, int year, int[] facts) {
            if (facts.length < Clerk.FACT_COUNT) {
                return;
            }
            int light = lightOfHouse(house, year);
            facts[0] = year;
            facts[1] = light;
            facts[2] = town.heightOf(house);
            facts[3] = angleIn(year);
            facts[4] = levelOf(town.cellOf(house), year) + 8;
            facts[5] = hasNoon(house, year) ? 1 : 0;
            facts[6] = light == 0 ? 1 : 0;
            facts[7] = isWindy(house, year) ? 1 : 0;
        }
    }

    /**
     * The things of a text: a number is its value, a word is WORD and its place in WORDS, any other byte is
     * SIGN and itself, and what can stand nowhere is UNKNOWN. So one number tells what may come next.
     */
    private abstract static class Text {
        static final int WORD = 1000;
        static final int SIGN = 2000;
        static final int END = 3000;
        static final int UNKNOWN = 3001;
        static final int TOWN_LINES = WORD;
        static final int LEASE_LINES = WORD + 9;
        static final int IF = WORD + 12;
        static final int OR = WORD + 13;
        static final int AND = WORD + 14;
        static final int NOT = WORD + 15;
        static final int FACTS = WORD + 16;
        static final int SIGHTS = WORD + 21;
        static final int GO = WORD + 24;
        static final int WAYS = WORD + 25;
        private static final int MOST_DIGITS = 3;
        private static final int MOST_LINES = 12;
        private static final String WORDS = "house window start rate bar sea gusts wind calm pay less void if or and not year light height turn level noon frost windy go north east south west ";

        private final int[] things;
        private final int[] begins;
        private int count;
        private int at;

        Text() {
            things = new int[Tape.LIMIT + 1];
            begins = new int[Tape.LIMIT + 1];
            count = 0;
            at = 0;
        }

        /** Uses the TAPE up. */
        void takeFrom(Tape tape) {
            count = 0;
            int place = 0;
            for (int i = 0; i < Tape.LIMIT && place < tape.size(); i++) {
                int behind = behindThing(tape, place);
                if (tape.at(place) != ' ') {
                    keep(thingAt(tape, place, behind), place);
                }
                place = behind;
            }
            keep(END, tape.size());
            tape.cut(0);
        }

        private void keep(int thing, int begin) {
            if (count >= 0 && count < things.length && count < begins.length) {
                things[count] = thing;
                begins[count] = begin;
                count++;
            }
        }

        private static boolean isLetter(int sign) {
            return sign >= 'a' && sign <= 'z';
        }

        private static boolean isDigit(int sign) {
            return sign >= '0' && sign <= '9';
        }

        private static int behindThing(Tape tape, int begin) {
            boolean isWord = isLetter(tape.at(begin));
            boolean isNumber = isDigit(tape.at(begin));
            int place = begin + 1;
            while (place < tape.size()
                    && (isWord && isLetter(tape.at(place)) || isNumber && isDigit(tape.at(place)))) {
                place++;
            }
            return place;
        }

        private static int thingAt(Tape tape, int begin, int behind) {
            int first = tape.at(begin);
            if (isLetter(first)) {
                return wordAt(tape, begin, behind);
            }
            if (isDigit(first)) {
                return numberAt(tape, begin, behind);
            }
            return SIGN + first;
        }

        private static int numberAt(Tape tape, int begin, int behind) {
            if (behind - begin > MOST_DIGITS) {
                return UNKNOWN;
            }
            int value = 0;
            for (int place = begin; place < behind; place++) {
                value = 10 * value + tape.at(place) - '0';
            }
            return value;
        }

        private static int wordAt(Tape tape, int begin, int behind) {
            int word = WORD;
            int fitting = 0;
            for (int i = 0; i < WORDS.length(); i++) {
                if (WORDS.charAt(i) == ' ') {
                    if (fitting == behind - begin) {
                        return word;
                    }
                    word++;
                    fitting = 0;
                } else if (fitting != NONE) {
                    boolean fits = begin + fitting < behind && WORDS.charAt(i) == tape.at(begin + fitting);
                    fitting = fits ? fitting + 1 : NONE;
                }
            }
            return UNKNOWN;
        }

        /** Reads the text that was taken: its first wrong byte; NONE without one. */
        int wrongIn() {
            at = 0;
            if (present() == END) {
                return NONE;
            }
            for (int line = 0; line < MOST_LINES; line++) {
                if (!readLine()) {
                    return begin();
                }
                if (present() == END) {
                    return NONE;
                }
                if (!skip(SIGN + ';')) {
                    return begin();
                }
            }
            return begin();
        }

        /** One LINE; if not, what cannot stand there is the present thing. */
        abstract boolean readLine();

        int present() {
            return at >= 0 && at < count && at < things.length ? things[at] : END;
        }

        private int begin() {
            return at >= 0 && at < begins.length ? begins[at] : 0;
        }

        /** Goes beyond the present thing, if it is this one. */
        boolean skip(int thing) {
            boolean isIt = at >= 0 && at < count && at < things.length && things[at] == thing;
            at += isIt ? 1 : 0;
            return isIt;
        }

        /** Goes beyond the present thing, if it is one of these: it; NONE, if not. */
        int take(int first, int last) {
            int thing = at >= 0 && at < count && at < things.length ? things[at] : END;
            if (thing < first || thing > last) {
                return NONE;
            }
            at++;
            return thing;
        }
    }

    private static final class TownText extends Text {
        private static final int HOUSE = TOWN_LINES;
        private static final int WINDOW = TOWN_LINES + 1;
        private static final int START = TOWN_LINES + 2;
        private static final int RATE = TOWN_LINES + 3;
        private static final int WIND = TOWN_LINES + 7;
        private static final int CALM = TOWN_LINES + 8;
        private static final int HIGHEST_UP = 29;
        private final Town town;

        /** The town on which LINES are written, of a wrong text those ahead of the wrong byte. */
        TownText(Town town) {
            this.town = town;
        }

        @Override
        boolean readLine() {
            int word = present();
            if (word == HOUSE && !town.houses.hasRoom() || word == WINDOW && !town.windows.hasRoom()) {
                return false;
            }
            if (take(HOUSE, CALM) == NONE) {
                return false;
            }
            if (word == HOUSE) {
                return readHouse();
            }
            if (word == WINDOW) {
                return readWindow();
            }
            return word >= WIND ? readWind(word == CALM) : readDial(word);
        }

        private boolean readHouse() {
            int cell = present();
            if (town.hasHouseOn(cell) || take(0, Plate.CELLS - 1) == NONE) {
                return false;
            }
            int height = take(1, HIGHEST);
            if (height == NONE) {
                return false;
            }
            town.addHouse(cell, height);
            return true;
        }

        private boolean readWindow() {
            int house = take(0, town.houses.size() - 1);
            if (house == NONE) {
                return false;
            }
            int facing = take(0, Plate.DIRECTIONS - 1);
            if (facing == NONE) {
                return false;
            }
            int up = take(0, HIGHEST_UP);
            if (up == NONE) {
                return false;
            }
            town.windows.add(house, facing, up, 0);
            return true;
        }

        private boolean readDial(int word) {
            int value = take(0, word == RATE ? MOST_NUMBER : Plate.PARTS - 1);
            if (value == NONE) {
                return false;
            }
            town.setDial(word - START, value);
            return true;
        }

        private boolean readWind(boolean isCalm) {
            int from = take(0, YEARS - 1);
            if (from == NONE) {
                return false;
            }
            int to = take(from, YEARS - 1);
            if (to == NONE) {
                return false;
            }
            int number = take(0, MOST_NUMBER);
            if (number == NONE) {
                return false;
            }
            for (int year = from; year <= to && year < YEARS; year++) {
                town.setWind(year, isCalm ? -number : number);
            }
            return true;
        }
    }

    /** Turns a LEASE into what the clerk reckons by: each thing behind those that it works on. */
    private static final class LeaseText extends Text {
        private static final int PAY = LEASE_LINES;
        private static final int VOID = LEASE_LINES + 2;
        private static final int MOST_AMOUNT = 999;
        private static final int DEEPEST = 6;
        private static final int FACT_WORDS = 5;
        private static final int SIGHT_WORDS = 3;
        private final int[] code;
        private int length;

        LeaseText() {
            code = new int[2 * Tape.LIMIT];
            length = 0;
        }

        void beginAnew() {
            length = 0;
        }

        int[] copyOfCode() {
            return Arrays.copyOf(code, Math.max(0, length));
        }

        private void put(int step) {
            if (length >= 0 && length < code.length) {
                code[length] = step;
                length++;
            }
        }

        @Override
        boolean readLine() {
            int word = take(PAY, VOID);
            if (word == NONE || word != VOID && !readAmount()) {
                return false;
            }
            if (!skip(IF)) {
                put(1);
            } else if (!readAny(0)) {
                return false;
            }
            put(Clerk.PAY + word - PAY);
            return true;
        }

        private boolean readAmount() {
            int amount = take(0, MOST_AMOUNT);
            if (amount == NONE) {
                return false;
            }
            put(amount);
            if (!skip(SIGN + '*')) {
                return true;
            }
            int fact = take(FACTS, FACTS + FACT_WORDS - 1);
            if (fact == NONE) {
                return false;
            }
            put(Clerk.FACT + fact - FACTS);
            put(Clerk.TIMES);
            return true;
        }

        /** A C, within so many ( and not. */
        private boolean readAny(int depth) {
            if (!readAll(depth)) {
                return false;
            }
            for (int i = 0; i < Tape.LIMIT && skip(OR); i++) {
                if (!readAll(depth)) {
                    return false;
                }
                put(Clerk.EITHER);
            }
            return true;
        }

        private boolean readAll(int depth) {
            if (!readAtom(depth)) {
                return false;
            }
            for (int i = 0; i < Tape.LIMIT && skip(AND); i++) {
                if (!readAtom(depth)) {
                    return false;
                }
                put(Clerk.BOTH);
            }
            return true;
        }

        private boolean readAtom(int depth) {
            int first = present();
            if (first == NOT || first == SIGN + '(') {
                return depth < DEEPEST && (skip(NOT) ? readNegated(depth) : readBraced(depth));
            }
            int sight = take(SIGHTS, SIGHTS + SIGHT_WORDS - 1);
            if (sight != NONE) {
                put(Clerk.FACT + FACT_WORDS + sight - SIGHTS);
                return true;
            }
            if (!readSum()) {
                return false;
            }
            int comparison = present();
            if (!skip(SIGN + '<') && !skip(SIGN + '>') || !readSum()) {
                return false;
            }
            put(comparison == SIGN + '<' ? Clerk.BELOW : Clerk.ABOVE);
            return true;
        }

        private boolean readNegated(int depth) {
            if (!readAtom(depth + 1)) {
                return false;
            }
            put(Clerk.NEGATED);
            return true;
        }

        private boolean readBraced(int depth) {
            return skip(SIGN + '(') && readAny(depth + 1) && skip(SIGN + ')');
        }

        private boolean readSum() {
            for (int parts = 0; parts < Tape.LIMIT; parts++) {
                int part = take(0, MOST_AMOUNT);
                if (part == NONE) {
                    int fact = take(FACTS, FACTS + FACT_WORDS - 1);
                    if (fact == NONE) {
                        return false;
                    }
                    part = Clerk.FACT + fact - FACTS;
                }
                put(part);
                if (parts > 0) {
                    put(Clerk.PLUS);
                }
                if (!skip(SIGN + '+')) {
                    return true;
                }
            }
            return false;
        }
    }

    private static final class WalkText extends Text {
        private static final int FARTHEST = 99;
        private static final int WAY_WORDS = 4;
        private int cell;
        private int angle;

        WalkText() {
            cell = NONE;
            angle = 0;
        }

        void setOut(int from, int angleThen) {
            cell = from;
            angle = angleThen;
        }

        /** NONE beyond the edge. */
        int place() {
            return cell;
        }

        @Override
        boolean readLine() {
            if (!skip(GO)) {
                return false;
            }
            int off = take(0, FARTHEST);
            if (off == NONE) {
                return false;
            }
            int way = take(WAYS, WAYS + WAY_WORDS - 1);
            if (way == NONE) {
                return false;
            }
            if (cell != NONE) {
                int part = (way - WAYS) * Plate.PARTS / WAY_WORDS;
                cell = Plate.cellOff(cell, Plate.directionOf(part, angle), off);
            }
            return true;
        }
    }

    /** Reckons RENT by what a LEASE was turned into, and by the facts of a HOUSE and YEAR. */
    private static final class Clerk {
        static final int FACT_COUNT = 8;
        static final int FACT = 1000;
        static final int PLUS = 2000;
        static final int TIMES = 2001;
        static final int BELOW = 2002;
        static final int ABOVE = 2003;
        static final int BOTH = 2004;
        static final int EITHER = 2005;
        static final int NEGATED = 2006;
        /** In the order of the words of a LEASE: pay, less, void. */
        static final int PAY = 2007;
        static final int LESS = 2008;
        static final int VOID = 2009;

        final int[] facts;
        private final int[] stack;
        private int top;
        private int sum;
        private boolean isVoid;

        Clerk() {
            facts = new int[FACT_COUNT];
            stack = new int[64];
            top = 0;
            sum = 0;
            isVoid = false;
        }

        int rentBy(int[] code) {
            top = 0;
            sum = 0;
            isVoid = false;
            for (int i = 0; code != null && i < code.length; i++) {
                int step = code[i];
                if (step < FACT) {
                    lay(step);
                } else if (step < PLUS) {
                    lay(factOf(step - FACT));
                } else {
                    work(step);
                }
            }
            return isVoid ? 0 : Math.max(0, sum);
        }

        private int factOf(int fact) {
            return fact >= 0 && fact < facts.length ? facts[fact] : 0;
        }

        private void lay(int value) {
            if (top >= 0 && top < stack.length) {
                stack[top] = value;
                top++;
            }
        }

        private int lift() {
            if (top <= 0 || top > stack.length) {
                return 0;
            }
            top--;
            return stack[top];
        }

        private void work(int step) {
            int last = lift();
            switch (step) {
                case NEGATED:
                    lay(last == 0 ? 1 : 0);
                    break;
                case VOID:
                    isVoid |= last != 0;
                    break;
                case PAY:
                    sum += last * lift();
                    break;
                case LESS:
                    sum -= last * lift();
                    break;
                default:
                    lay(joined(step, lift(), last));
                    break;
            }
        }

        private static int joined(int step, int first, int second) {
            switch (step) {
                case PLUS:
                    return first + second;
                case TIMES:
                    return first * second;
                case BELOW:
                    return first < second ? 1 : 0;
                case ABOVE:
                    return first > second ? 1 : 0;
                case BOTH:
                    return first & second;
                default:
                    return first | second;
            }
        }
    }

    /** SWAPS of a town of few HOUSES. */
    private static final class Exchange {
        static final int MOST = 7;
        private final Town town;
        private final Almanac almanac;
        private final int[] goods;
        private final int[] lights;
        private final int[] homes;
        private final int[] best;
        private int ways;
        private int most;

        Exchange(Town town, Almanac almanac) {
            this.town = town;
            this.almanac = almanac;
            goods = new int[MOST * MOST];
            lights = new int[YEARS];
            homes = new int[MOST];
            best = new int[MOST];
            ways = 0;
            most = NONE;
        }

        void search() {
            almanac.open();
            for (int house = 0; house < town.houses.size() && house < MOST; house++) {
                weigh(house);
            }
            ways = 0;
            most = NONE;
            settle(0, 0, 0);
        }

        int wayCount() {
            return ways;
        }

        int mostGood() {
            return most;
        }

        int bestHome(int family) {
            return family >= 0 && family < best.length ? best[family] : NONE;
        }

        /** GOOD of a HOUSE for every FAMILY: its LIGHT is dear, so it is reckoned but once a YEAR. */
        private void weigh(int house) {
            for (int year = 0; year < lights.length; year++) {
                lights[year] = almanac.lightOfHouse(house, year);
            }
            for (int family = 0; family < town.families.size() && family < MOST; family++) {
                int from = Math.max(0, town.families.get(family, Town.FROM));
                int to = town.families.get(family, Town.TO);
                int sum = 0;
                for (int year = from; year <= to && year < lights.length; year++) {
                    sum += lights[year];
                }
                setGood(family, house, sum);
            }
        }

        private void setGood(int family, int house, int sum) {
            int place = MOST * family + house;
            if (place >= 0 && place < goods.length) {
                goods[place] = sum;
            }
        }

        private int goodOf(int family, int house) {
            int place = MOST * family + house;
            return place >= 0 && place < goods.length ? goods[place] : 0;
        }

        /** Goes through all ways from this FAMILY on, the HOUSES that are taken told as bits. */
        private void settle(int family, int taken, int sum) {
            int count = town.families.size();
            if (family >= count || family >= MOST) {
                keepWay(sum);
                return;
            }
            int least = goodOf(family, town.homeOf(family));
            for (int house = 0; house < count && house < MOST; house++) {
                int good = goodOf(family, house);
                if ((taken >> house & 1) == 0 && good >= least && family < homes.length) {
                    homes[family] = house;
                    settle(family + 1, taken | 1 << house, sum + good);
                }
            }
        }

        private void keepWay(int sum) {
            ways++;
            if (sum > most) {
                most = sum;
                for (int family = 0; family < best.length && family < homes.length; family++) {
                    best[family] = homes[family];
                }
            }
        }
    }
}
