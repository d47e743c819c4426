/** Promises 21 to 27: levels, drains, pools, names and walks. */
public final class WaterTest {
    public static void main(String[] args) {
        level();
        drain();
        runs();
        uphill();
        pool();
        name();
        walk();
        walkFaults();
        Due.close();
    }

    private static void level() {
        PlateTown x = Due.town("rate 0");
        Due.is("south", -4, x.level(0, 0));
        Due.is("high", 4, x.level(80, 0));
        Due.is("middle", 0, x.level(40, 99));
        Due.tell(x, "sea 36");
        Due.is("lowest", -8, x.level(8, 0));
        Due.is("highest", 8, x.level(72, 0));
        Due.is("level along", 0, x.level(80, 0));
        Due.tell(x, "sea 24");
        Due.is("east of x", -3, x.level(43, 0));
        Due.is("east of y", 0, x.level(4, 0));
        Due.tell(x, "sea 0;rate 12");
        Due.is("north", -4, x.level(76, 0));
        Due.is("turned to 7", -8, x.level(72, 1));
        Due.outside("level cell 81", () -> x.level(81, 0));
        Due.outside("level cell -1", () -> x.level(-1, 0));
        Due.outside("level year 100", () -> x.level(0, 100));
        Due.outside("level year -1", () -> x.level(0, -1));
    }

    private static void drain() {
        PlateTown x = new PlateTown();
        Due.illegal("drain to itself", () -> x.drain(80, 80));
        Due.outside("drain from 81", () -> x.drain(81, 81));
        Due.outside("drain to 81", () -> x.drain(0, 81));
        Due.outside("drain to -1", () -> x.drain(0, -1));
        Due.outside("drain from -1", () -> x.drain(-1, 0));
        for (int i = 0; i < 8; i++) {
            Due.is("drain " + i, i, x.drain(80, i));
        }
        Due.full("a 9th drain", () -> x.drain(0, 80));
        Due.illegal("a 9th drain to itself", () -> x.drain(0, 0));
        Due.outside("a 9th drain beyond", () -> x.drain(81, 0));
        Due.is("drains", 8, x.count(6));
    }

    private static void runs() {
        PlateTown x = Due.town("rate 0");
        Due.outside("runs without a drain", () -> x.runs(0, 0));
        x.drain(40, 31);
        x.drain(31, 40);
        x.drain(40, 44);
        Due.is("down", true, x.runs(0, 0));
        Due.is("up", false, x.runs(1, 0));
        Due.is("as high", false, x.runs(2, 0));
        Due.tell(x, "start 48");
        Due.is("turned up", false, x.runs(0, 99));
        Due.is("turned down", true, x.runs(1, 99));
        Due.outside("runs year 100", () -> x.runs(0, 100));
        Due.outside("runs year -1", () -> x.runs(0, -1));
        Due.outside("runs drain 3", () -> x.runs(3, 0));
        Due.outside("runs drain -1", () -> x.runs(-1, 0));
    }

    private static void uphill() {
        PlateTown x = new PlateTown();
        Due.outside("uphill without a drain", () -> x.uphill(0, true));
        // ANGLE 3 times the YEAR: the first runs in 0 to 6, 27 to 38, 59 to 70, 91 to 99
        x.drain(40, 31);
        // runs in 11 to 22, 43 to 54, 75 to 86
        x.drain(31, 40);
        Due.is("uphill", 20, x.uphill(0, false));
        Due.is("the first row", 7, x.uphill(0, true));
        Due.is("uphill of the other", 20, x.uphill(1, false));
        Due.is("the first of the longest", 23, x.uphill(1, true));
        Due.tell(x, "rate 0");
        Due.is("always runs", 0, x.uphill(0, false));
        Due.is("none", -1, x.uphill(0, true));
        Due.is("never runs", 100, x.uphill(1, false));
        Due.is("from the first year on", 0, x.uphill(1, true));
        x.rope(98, 20);
        Due.is("the last year alone", 1, x.uphill(0, false));
        Due.is("the last year", 99, x.uphill(0, true));
        Due.outside("uphill drain 2", () -> x.uphill(2, false));
        Due.outside("uphill drain -1", () -> x.uphill(-1, false));
    }

    private static void pool() {
        PlateTown x = Due.town("rate 0;house 22 1");
        Due.is("to the edge", 3, x.pool(75, 0));
        Due.is("at the edge", 5, x.pool(5, 0));
        Due.is("to the house", 31, x.pool(76, 0));
        Due.is("behind the house", 31, x.pool(31, 0));
        Due.is("from the house", 4, x.pool(22, 0));
        Due.tell(x, "house 0 1");
        Due.is("to the house on CELL 0", 9, x.pool(72, 0));
        Due.tell(x, "sea 36");
        Due.is("slanting to the corner", 8, x.pool(72, 0));
        Due.is("slanting to the edge", 71, x.pool(79, 0));
        Due.tell(x, "sea 24;rate 12");
        Due.is("along x, not around the edge", 44, x.pool(36, 0));
        Due.is("a year later to 1", 76, x.pool(36, 1));
        Due.outside("pool cell 81", () -> x.pool(81, 0));
        Due.outside("pool cell -1", () -> x.pool(-1, 0));
        Due.outside("pool year 100", () -> x.pool(0, 100));
        Due.outside("pool year -1", () -> x.pool(0, -1));
    }

    private static void name() {
        PlateTown x = Due.town("rate 0;start 5");
        Due.is("rounded down", 0, x.name(0, 0, false));
        Due.is("seven", 7, x.name(7, 0, false));
        Due.tell(x, "start 6");
        Due.is("rounded up", 1, x.name(0, 0, false));
        Due.is("around", 0, x.name(7, 0, false));
        Due.tell(x, "start 89");
        Due.is("far turned", 7, x.name(0, 0, false));
        Due.tell(x, "start 90");
        Due.is("all around", 0, x.name(0, 0, false));
        Due.is("until the end", 99, x.name(3, 5, true));
        Due.tell(x, "start 0;rate 3");
        Due.is("until 1", 1, x.name(0, 0, true));
        Due.is("until 5", 5, x.name(0, 2, true));
        Due.is("until 5 from 5 on", 5, x.name(0, 5, true));
        Due.is("until the last year", 99, x.name(4, 98, true));
        Due.tell(x, "rate 0;wind 3 3 20");
        x.rope(4, 20);
        x.rope(5, 20);
        x.rope(6, 20);
        x.rope(7, 16);
        Due.is("called so once more later", 0, x.name(0, 8, false));
        Due.is("but not all between", 3, x.name(0, 0, true));
        Due.outside("name direction 8", () -> x.name(8, 0, true));
        Due.outside("name direction -1", () -> x.name(-1, 0, false));
        Due.outside("name year 100", () -> x.name(0, 100, false));
        Due.outside("name year -1", () -> x.name(0, -1, true));
    }

    private static void walk() {
        PlateTown x = Due.town("rate 12;house 49 30");
        Due.is("no LINE", 17, Due.walk(x, "  ", 17, 0));
        Due.is("north, over a house", 58, Due.walk(x, "go 2 north", 40, 0));
        Due.is("east", 43, Due.walk(x, "go 3 east", 40, 0));
        Due.is("south", 22, Due.walk(x, "go 2 south", 40, 0));
        Due.is("west", 36, Due.walk(x, "go 4 west", 40, 0));
        Due.is("north a year later", 48, Due.walk(x, "go 1 north", 40, 1));
        Due.is("east a year later", 50, Due.walk(x, "go 1 east", 40, 1));
        Due.is("south a year later", 32, Due.walk(x, "go 1 south", 40, 1));
        Due.is("west a year later", 30, Due.walk(x, "go1west", 40, 1));
        Due.is("north two years later", 39, Due.walk(x, "go 1 north", 40, 2));
        Due.is("line by line", 42, Due.walk(x, "go 2 north;go 2 east ; go 2 south;go 0 west", 40, 0));
        Due.is("to the edge", 76, Due.walk(x, "go 4 north", 40, 0));
        Due.is("beyond the edge", -1, Due.walk(x, "go 5 north", 40, 0));
        Due.is("beyond the edge by x", -1, Due.walk(x, "go 5 east", 40, 0));
        Due.is("not to the next row", -1, Due.walk(x, "go 1 west", 36, 0));
        Due.is("none comes back", -1, Due.walk(x, "go 5 north;go 5 south", 40, 0));
        Due.is("far beyond", -1, Due.walk(x, "go 99 south", 40, 0));
        Due.is("twelve lines", 40, Due.walk(x, "go 1 north;go 1 south" + ";go 2 west;go 2 east".repeat(5), 40, 0));
        Due.is("the TAPE is used up", false, x.end(1));
        Due.outside("walk cell 81", () -> x.walk(81, 0));
        Due.outside("walk cell -1", () -> x.walk(-1, 0));
        Due.outside("walk year 100", () -> x.walk(0, 100));
        Due.outside("walk year -1", () -> x.walk(0, -1));
        Due.type(x, "go 1");
        Due.outside("walk from nowhere by a wrong text", () -> x.walk(81, 0));
        Due.is("the TAPE is used up there, too", false, x.end(1));
        Due.is("a text that was not read has no fault", -1, x.fault());
    }

    private static void walkFaults() {
        PlateTown x = new PlateTown();
        Due.wrongWalk(x, "goes 1 east", 0);
        Due.wrongWalk(x, "1 east", 0);
        Due.wrongWalk(x, "go", 2);
        Due.wrongWalk(x, "go east", 3);
        Due.wrongWalk(x, "go 100 east", 3);
        Due.wrongWalk(x, "go 1", 4);
        Due.wrongWalk(x, "go 1 up", 5);
        Due.wrongWalk(x, "go 1 light", 5);
        Due.wrongWalk(x, "go 1 2", 5);
        Due.wrongWalk(x, "go 1 east east", 10);
        Due.wrongWalk(x, "go 1 east;", 10);
        Due.wrongWalk(x, "go 9 north;go 9 norths", 16);
        Due.wrongWalk(x, "go 0 east" + ";go 0 east".repeat(11) + "; go 0 east", 121);
    }
}
