/** The edges that the Terms and promises 21 to 27 name for LEVEL, DRAINS, POOL, NAMES and WALKS. */
public final class EdgeWaterTest {
    /** LEVELS of some CELLS by the DIRECTION of SEA. */
    private static final int[] CORNERS = {0, 8, 72, 80, 40, 5, 45};
    private static final int[][] LEVELS = {
        {4, 4, -4, -4, 0, 4, -1},
        {8, 0, 0, -8, 0, 3, 3},
        {4, -4, 4, -4, 0, -1, 4},
        {0, -8, 8, 0, 0, -5, 5},
        {-4, -4, 4, 4, 0, -4, 1},
        {-8, 0, 0, 8, 0, -3, -3},
        {-4, 4, -4, 4, 0, 1, -4},
        {0, 8, -8, 0, 0, 5, -5}};
    /** The last CELL from CELL 40 by DIRECTION, and the one beside it. */
    private static final int[] LAST = {76, 80, 44, 8, 4, 0, 36, 72};
    private static final int[] BESIDE = {49, 50, 41, 32, 31, 30, 39, 48};
    private static final String[] WAYS = {"north", "east", "south", "west"};

    public static void main(String[] args) {
        level();
        drain();
        runs();
        uphill();
        pool();
        name();
        until();
        walk();
        walkTexts();
        Due.close();
    }

    // ---- promise 21 ----

    private static void level() {
        PlateTown x = new PlateTown();
        Due.edge("level: IndexOutOfBoundsException: no such CELL (0 to 80)", () ->
                Due.bounds("level", 81, cell -> x.level(cell, 0)));
        Due.edge("level: IndexOutOfBoundsException: no such YEAR", () ->
                Due.bounds("level in YEAR", 100, year -> x.level(0, year)));
        Due.edge("LEVEL: of x and of y, by each of the 8 DIRECTIONS of SEA", () -> {
            for (int sea = 0; sea < 8; sea++) {
                PlateTown y = Due.town("rate 0;sea " + 12 * sea);
                for (int i = 0; i < CORNERS.length; i++) {
                    Due.is("CELL " + CORNERS[i] + " by " + sea, LEVELS[sea][i], y.level(CORNERS[i], 0));
                }
            }
        });
        Due.edge("LEVEL: the DIRECTION of SEA less ANGLE (modulo 96) and 6, by 12 (rounded down), modulo 8", () -> {
            for (int part = 0; part < 96; part++) {
                int direction = part < 90 ? (part + 6) / 12 : 0;
                Due.is("SEA " + part, LEVELS[direction][5], Due.town("sea " + part).level(5, 0));
                int start = (96 - part) % 96;
                Due.is("SEA 0 by ANGLE " + start, LEVELS[direction][5], Due.town("sea 0;start " + start).level(5, 0));
            }
        });
        Due.edge("LEVEL: in the YEAR's ANGLE", () -> {
            PlateTown y = Due.town("rate 12;sea 0");
            for (int year = 0; year < 8; year++) {
                Due.is("YEAR " + year, LEVELS[(8 - year) % 8][6], y.level(45, year));
            }
        });
    }

    // ---- promise 22 ----

    private static void drain() {
        Due.edge("drain: IndexOutOfBoundsException: no such CELL", () -> {
            PlateTown x = new PlateTown();
            Due.bounds("drain from", 81, cell -> x.drain(cell, 40));
            Due.bounds("drain to", 81, cell -> x.drain(40, cell));
        });
        Due.edge("drain: IllegalArgumentException: both CELLS are one", () -> {
            PlateTown x = new PlateTown();
            for (int cell : new int[] {0, 40, 80}) {
                Due.illegal("drain of " + cell, () -> x.drain(cell, cell));
            }
            Due.is("beside it", 0, x.drain(0, 1));
            Due.is("and back", 1, x.drain(1, 0));
            Due.is("once more", 2, x.drain(0, 1));
        });
        Due.edge("DRAINS (at most 8): its number; UnsupportedOperationException: there are 8", () -> {
            PlateTown x = fullOfDrains();
            Due.is("count", 8, x.count(6));
            Due.keeps(x, "a 9th drain", () -> Due.full("a 9th drain", () -> x.drain(0, 1)));
            Due.outside("a 9th", () -> x.runs(8, 0));
        });
        Due.edge("drain: of several exceptions the one told first", () -> {
            PlateTown x = fullOfDrains();
            Due.outside("no CELL, both one, full", () -> x.drain(81, 81));
            Due.outside("no CELL, both -1, full", () -> x.drain(-1, -1));
            Due.outside("no second CELL, full", () -> x.drain(0, 81));
            Due.illegal("both one, full", () -> x.drain(0, 0));
        });
    }

    private static PlateTown fullOfDrains() {
        PlateTown x = Due.town("rate 0");
        for (int i = 0; i < 8; i++) {
            Due.is("drain " + i, i, x.drain(80, i));
        }
        return x;
    }

    // ---- promise 23 ----

    private static void runs() {
        Due.edge("runs: IndexOutOfBoundsException: no such DRAIN", () -> {
            PlateTown x = fullOfDrains();
            Due.bounds("runs", 8, drain -> x.runs(drain, 0));
            Due.noSuch("runs without a DRAIN", 0, drain -> new PlateTown().runs(drain, 0));
        });
        Due.edge("runs: IndexOutOfBoundsException: no such YEAR", () -> {
            PlateTown x = fullOfDrains();
            Due.bounds("runs in YEAR", 100, year -> x.runs(0, year));
        });
        Due.edge("RUNS: LEVEL below, not equal", () -> {
            PlateTown x = Due.town("rate 0");
            x.drain(40, 31);
            x.drain(40, 41);
            x.drain(40, 49);
            Due.is("below by 1", true, x.runs(0, 0));
            Due.is("equal", false, x.runs(1, 0));
            Due.is("above by 1", false, x.runs(2, 0));
        });
        Due.edge("RUNS: a HOUSE changes nothing", () -> {
            PlateTown x = Due.town("rate 0;house 31 30;house 40 1");
            x.drain(49, 22);
            Due.is("runs", true, x.runs(0, 0));
        });
    }

    // ---- promise 24 ----

    /** DRAIN 0 runs southwards; it does not run in some YEARS, in which the plate is turned by 48. */
    private static PlateTown turnedIn(int... years) {
        PlateTown x = Due.town("rate 8;calm 0 99 8");
        x.drain(40, 31);
        for (int year : years) {
            Due.tell(x, "wind " + year + " " + year + " 20");
            x.rope(year, 20);
        }
        return x;
    }

    private static void uphill() {
        Due.edge("uphill: IndexOutOfBoundsException: no such DRAIN", () -> {
            PlateTown x = fullOfDrains();
            Due.bounds("uphill", 8, drain -> x.uphill(drain, true));
            Due.bounds("uphill", 8, drain -> x.uphill(drain, false));
            Due.noSuch("uphill without a DRAIN", 0, drain -> new PlateTown().uphill(drain, false));
        });
        Due.edge("UPHILL: none, if it always runs", () -> uphill(turnedIn(), 0, -1));
        Due.edge("UPHILL: in all YEARS", () -> {
            PlateTown x = Due.town("rate 0");
            x.drain(31, 40);
            uphill(x, 100, 0);
            PlateTown along = Due.town("rate 0");
            along.drain(40, 41);
            uphill(along, 100, 0);
        });
        Due.edge("UPHILL: of several rows the first", () -> uphill(turnedIn(4, 7, 10, 13), 3, 5));
        Due.edge("UPHILL: the most, though it is not the first", () -> uphill(turnedIn(4, 6, 10, 13), 3, 11));
        Due.edge("UPHILL: a row to YEAR 99", () -> {
            uphill(turnedIn(97), 2, 98);
            uphill(turnedIn(98), 1, 99);
            uphill(turnedIn(4, 6, 96), 3, 97);
        });
        Due.edge("UPHILL: a row from YEAR 0 on", () -> {
            PlateTown x = Due.town("rate 8;calm 0 99 8;wind 2 2 20;start 48");
            x.rope(2, 20);
            x.drain(40, 31);
            uphill(x, 3, 0);
        });
        Due.edge("UPHILL: rows are one after another, not together", () -> uphill(turnedIn(4, 5, 6, 7, 8, 9), 1, 5));
    }

    private static void uphill(PlateTown x, int howMany, int first) {
        Due.is("how many", howMany, x.uphill(0, false));
        Due.is("the first", first, x.uphill(0, true));
    }

    // ---- promise 25 ----

    private static void pool() {
        Due.edge("pool: IndexOutOfBoundsException: no such CELL", () -> {
            PlateTown x = new PlateTown();
            Due.bounds("pool", 81, cell -> x.pool(cell, 0));
        });
        Due.edge("pool: IndexOutOfBoundsException: no such YEAR", () -> {
            PlateTown x = new PlateTown();
            Due.bounds("pool in YEAR", 100, year -> x.pool(0, year));
        });
        Due.edge("POOL: until the next one is beyond the edge", () -> {
            for (int sea = 0; sea < 8; sea++) {
                PlateTown x = Due.town("rate 0;sea " + 12 * sea);
                Due.is("to the edge by " + sea, LAST[sea], x.pool(40, 0));
                Due.is("at the edge by " + sea, LAST[sea], x.pool(LAST[sea], 0));
            }
            Due.is("from end to end", 4, Due.town("rate 0").pool(76, 0));
            Due.is("from corner to corner", 8, Due.town("rate 0;sea 36").pool(72, 0));
            Due.is("from corner to corner, 1", 80, Due.town("rate 0;sea 12").pool(0, 0));
            Due.is("x ends ahead of y", 17, Due.town("rate 0;sea 36").pool(49, 0));
            Due.is("y ends ahead of x", 7, Due.town("rate 0;sea 36").pool(39, 0));
        });
        Due.edge("POOL: or has a HOUSE", () -> {
            for (int sea = 0; sea < 8; sea++) {
                PlateTown x = Due.town("rate 0;sea " + 12 * sea + ";house " + BESIDE[sea] + " 1");
                Due.is("beside it by " + sea, 40, x.pool(40, 0));
                PlateTown y = Due.town("rate 0;sea " + 12 * sea + ";house " + LAST[sea] + " 30");
                int ahead = LAST[sea] - (BESIDE[sea] - 40);
                Due.is("at the edge by " + sea, ahead, y.pool(40, 0));
            }
        });
        Due.edge("POOL: on a CELL that has a HOUSE", () ->
                Due.is("it goes on", 4, Due.town("rate 0;house 40 30").pool(40, 0)));
        Due.edge("POOL: not into the next row", () -> {
            Due.is("x beyond 8", 44, Due.town("rate 0;sea 24").pool(40, 0));
            Due.is("x below 0", 36, Due.town("rate 0;sea 72").pool(40, 0));
        });
    }

    // ---- promise 26 ----

    private static void name() {
        PlateTown x = new PlateTown();
        Due.edge("name: IndexOutOfBoundsException: no such DIRECTION (0 to 7)", () -> {
            Due.bounds("name", 8, direction -> x.name(direction, 0, false));
            Due.bounds("name until", 8, direction -> x.name(direction, 0, true));
        });
        Due.edge("name: IndexOutOfBoundsException: no such YEAR", () -> {
            Due.bounds("name in YEAR", 100, year -> x.name(0, year, false));
            Due.bounds("name until, in YEAR", 100, year -> x.name(0, year, true));
        });
        Due.edge("NAMES: 12 times it and ANGLE and 6, by 12 (rounded down), modulo 8", () -> {
            for (int angle = 0; angle < 96; angle++) {
                PlateTown y = Due.town("rate 0;start " + angle);
                for (int direction = 0; direction < 8; direction++) {
                    int called = y.name(direction, 0, false);
                    Due.is("DIRECTION " + direction + " by " + angle + " is called 0 to 7", true, called >= 0 && called < 8);
                    Due.is("DIRECTION " + direction + " by " + angle + " is called " + called + ", from 6 ahead to 5 behind",
                            true, Math.floorMod(12 * direction + angle - 12 * called + 6, 96) < 12);
                }
            }
        });
        Due.edge("NAMES: rounded down", () -> {
            Due.is("5", 0, Due.town("start 5").name(0, 0, false));
            Due.is("6", 1, Due.town("start 6").name(0, 0, false));
        });
        Due.edge("NAMES: modulo 8", () -> {
            Due.is("0 by 89", 7, Due.town("start 89").name(0, 0, false));
            Due.is("0 by 90", 0, Due.town("start 90").name(0, 0, false));
            Due.is("7 by 5", 7, Due.town("start 5").name(7, 0, false));
            Due.is("7 by 6", 0, Due.town("start 6").name(7, 0, false));
            Due.is("7 by 95", 7, Due.town("start 95").name(7, 0, false));
        });
    }

    private static void until() {
        Due.edge("UNTIL: YEAR 99, if it stays so", () -> Due.is("until", 99, Due.town("rate 0").name(0, 0, true)));
        Due.edge("UNTIL: of YEAR 99", () -> Due.is("until", 99, new PlateTown().name(0, 99, true)));
        Due.edge("UNTIL: the YEAR itself, if it is called otherwise the next", () -> {
            PlateTown x = Due.town("rate 6");
            Due.is("YEAR 0", 0, x.name(0, 0, true));
            Due.is("YEAR 1", 2, x.name(0, 1, true));
            Due.is("YEAR 2", 2, x.name(0, 2, true));
            Due.is("YEAR 98", 98, x.name(0, 98, true));
        });
        Due.edge("UNTIL: all between, too", () -> {
            PlateTown x = turnedIn(4, 7);
            Due.is("called so later", 0, x.name(0, 99, false));
            Due.is("until ahead of it", 4, x.name(0, 0, true));
            Due.is("until between", 7, x.name(0, 5, true));
            Due.is("until behind", 99, x.name(0, 8, true));
        });
        Due.edge("UNTIL: to the last YEAR ahead of 99", () -> {
            PlateTown x = turnedIn(98);
            Due.is("until 98", 98, x.name(3, 0, true));
        });
    }

    // ---- promise 27 ----

    private static void walk() {
        Due.edge("walk: IndexOutOfBoundsException: no such CELL", () -> {
            PlateTown x = new PlateTown();
            Due.bounds("walk", 81, cell -> x.walk(cell, 0));
        });
        Due.edge("walk: IndexOutOfBoundsException: no such YEAR", () -> {
            PlateTown x = new PlateTown();
            Due.bounds("walk in YEAR", 100, year -> x.walk(0, year));
        });
        Due.edge("walk: IndexOutOfBoundsException ahead of IllegalArgumentException", () -> {
            PlateTown x = new PlateTown();
            Due.type(x, "go 1");
            Due.outside("CELL 81, a wrong text", () -> x.walk(81, 0));
            Due.type(x, "x");
            Due.outside("YEAR 100, a wrong text", () -> x.walk(0, 100));
        });
        Due.edge("walk: uses the TAPE up, where it throws, too", () -> {
            PlateTown x = new PlateTown();
            Due.type(x, "go 1 east");
            Due.outside("CELL 81", () -> x.walk(81, 0));
            Due.is("behind no CELL", false, x.end(1));
            Due.type(x, "go 1 east");
            Due.outside("YEAR 100", () -> x.walk(0, 100));
            Due.is("behind no YEAR", false, x.end(1));
            Due.wrongWalk(x, "go", 2);
            Due.is("behind a wrong text", false, x.end(1));
        });
        Due.edge("WALK: none beyond the edge", () -> {
            int[] last = {76, 44, 4, 36};
            for (int way = 0; way < 4; way++) {
                PlateTown x = Due.town("rate 0");
                Due.is("4 " + WAYS[way], last[way], Due.walk(x, "go 4 " + WAYS[way], 40, 0));
                Due.is("5 " + WAYS[way], -1, Due.walk(x, "go 5 " + WAYS[way], 40, 0));
                Due.is("9 " + WAYS[way], -1, Due.walk(x, "go 9 " + WAYS[way], 40, 0));
                Due.is("99 " + WAYS[way], -1, Due.walk(x, "go 99 " + WAYS[way], 40, 0));
                Due.is("none at the edge", -1, Due.walk(x, "go 1 " + WAYS[way], last[way], 0));
                Due.is("0 at the edge", last[way], Due.walk(x, "go 0 " + WAYS[way], last[way], 0));
            }
        });
        Due.edge("WALK: none beyond a corner", () -> {
            int[] corners = {72, 80, 8, 0};
            for (int way = 0; way < 4; way++) {
                PlateTown x = Due.town("rate 0;start 12");
                Due.is("4 " + WAYS[way], corners[way], Due.walk(x, "go 4 " + WAYS[way], 40, 0));
                Due.is("5 " + WAYS[way], -1, Due.walk(x, "go 5 " + WAYS[way], 40, 0));
            }
        });
        Due.edge("WALK: the DIRECTION on the plate of 0, 24, 48, 72 PARTS then", EdgeWaterTest::walkByAngle);
        Due.edge("WALK: over HOUSES", () ->
                Due.is("go", 58, Due.walk(Due.town("rate 0;house 49 30;house 58 30"), "go 2 north", 40, 0)));
        Due.edge("WALK: in words of that YEAR", () -> {
            PlateTown x = Due.town("rate 12");
            int[] cells = {49, 48, 39, 30, 31, 32, 41, 50, 49};
            for (int year = 0; year < cells.length; year++) {
                Due.is("north in " + year, cells[year], Due.walk(x, "go 1 north", 40, year));
            }
        });
    }

    private static void walkByAngle() {
        for (int start = 0; start < 96; start++) {
            PlateTown x = Due.town("rate 0;start " + start);
            for (int way = 0; way < 4; way++) {
                int part = Math.floorMod(24 * way - start, 96);
                int direction = part < 90 ? (part + 6) / 12 : 0;
                Due.is(WAYS[way] + " by " + start, BESIDE[direction], Due.walk(x, "go 1 " + WAYS[way], 40, 0));
            }
        }
    }

    private static void walkTexts() {
        Due.edge("WALK: N: 0 to 99", () -> {
            PlateTown x = Due.town("rate 0");
            Due.is("0", 40, Due.walk(x, "go 0 north", 40, 0));
            Due.is("8", 76, Due.walk(x, "go 8 north", 4, 0));
            Due.is("three digits", 41, Due.walk(x, "go 001 east", 40, 0));
            Due.is("99", -1, Due.walk(x, "go 99 north", 4, 0));
            Due.wrongWalk(x, "go 100 north", 3);
            Due.wrongWalk(x, "go 999 north", 3);
            Due.wrongWalk(x, "go 0001 north", 3);
        });
        Due.edge("WALK: LINE { ; LINE }, at most 12", () -> {
            PlateTown x = Due.town("rate 0");
            String twelve = "go 1 east;go 1 west" + ";go 1 north;go 1 south".repeat(4) + ";go 1 east;go 1 east";
            Due.is("twelve", 42, Due.walk(x, twelve, 40, 0));
            Due.wrongWalk(x, twelve + ";go 1 east", twelve.length() + 1);
            Due.wrongWalk(x, twelve + " ; go 1 east", twelve.length() + 3);
            Due.wrongWalk(x, twelve + ";", twelve.length() + 1);
            Due.wrongWalk(x, twelve + ";x", twelve.length() + 1);
        });
        Due.edge("WALK: a text that is empty, or blanks alone, has no LINE", () -> {
            PlateTown x = new PlateTown();
            Due.is("empty", 80, x.walk(80, 99));
            Due.is("a blank", 80, Due.walk(x, " ", 80, 99));
            Due.is("400 blanks", 0, Due.walk(x, " ".repeat(400), 0, 0));
        });
        Due.edge("WALK: WORD: north, east, south, west", () -> {
            for (String word : new String[] {"up", "norths", "nort", "North", "house", "light", "go", "n", "1", ";"}) {
                Due.wrongWalk(new PlateTown(), "go 1 " + word, 5);
            }
        });
        Due.edge("WALK: the text's length, if more must come", () -> {
            for (String text : new String[] {"go", "go 1", "go 1 east;", "go 1 east;go", "go 1 east;go 1"}) {
                Due.wrongWalk(new PlateTown(), text, text.length());
                Due.wrongWalk(new PlateTown(), text + "  ", text.length() + 2);
            }
        });
        Due.edge("WALK: the begin of the first thing that cannot stand there", () -> {
            PlateTown x = new PlateTown();
            Due.wrongWalk(x, ";", 0);
            Due.wrongWalk(x, "goes 1 east", 0);
            Due.wrongWalk(x, "north 1", 0);
            Due.wrongWalk(x, "go north", 3);
            Due.wrongWalk(x, "go 1 east 1", 10);
            Due.wrongWalk(x, "go 1 east go", 10);
            Due.wrongWalk(x, "go 1 east;;", 10);
            Due.wrongWalk(x, "go 100 up", 3);
            Due.wrongWalk(x, "go 1 east,", 9);
            Due.wrongWalk(x, "rate 1", 0);
            Due.wrongWalk(x, "pay 1", 0);
        });
        Due.edge("WALK: a wrong text beyond the edge is wrong", () ->
                Due.wrongWalk(new PlateTown(), "go 99 north;go 99 north;go 1 up", 29));
        Due.edge("WALK: between all there may be blanks, also ahead and behind", () -> {
            PlateTown x = Due.town("rate 0");
            Due.is("many", 42, Due.walk(x, "  go  1  east  ;  go  1  east  ", 40, 0));
            Due.is("none", 42, Due.walk(x, "go1east;go1east", 40, 0));
        });
    }
}
