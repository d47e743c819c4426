/** The edges that the Terms and promises 33 to 37 name for FAMILIES, GOOD, SWAPS, MOVED and LEFT. */
public final class EdgeFamilyTest {
    private static final String SEVEN = "house 0 1;house 2 1;house 4 1;house 6 1;house 8 1;house 18 1;house 20 1";

    public static void main(String[] args) {
        wants();
        good();
        swapsRefused();
        howMany();
        theMost();
        theFirst();
        move();
        left();
        Due.close();
    }

    /** ANGLE 0 to YEAR 49, then 48: what faces south has 9 HOURS a YEAR first, what faces north has them later. */
    private static PlateTown turned(String houses) {
        PlateTown x = Due.town("rate 8;calm 0 99 8;wind 49 49 20;" + houses);
        x.rope(49, 20);
        return x;
    }

    private static PlateTown southAndNorth() {
        return turned("house 40 1;house 44 1;window 0 4 0;window 1 0 0");
    }

    // ---- promise 33 ----

    private static void wants() {
        Due.edge("wants: IndexOutOfBoundsException: no such FAMILY (numbered as HOUSES)", () -> {
            PlateTown x = southAndNorth();
            Due.bounds("wants", 2, family -> x.wants(family, 0, 0));
            Due.noSuch("wants on an empty plate", 0, family -> new PlateTown().wants(family, 0, 0));
        });
        Due.edge("wants: YEARS from .. to", () -> {
            PlateTown x = southAndNorth();
            Due.span("wants", (from, to) -> x.wants(1, from, to));
        });
        Due.edge("wants: IndexOutOfBoundsException ahead of IllegalArgumentException", () -> {
            PlateTown x = southAndNorth();
            Due.outside("no FAMILY", () -> x.wants(2, 1, 0));
            Due.outside("no first YEAR", () -> x.wants(0, 100, 0));
            Due.outside("no second YEAR", () -> x.wants(0, 0, -1));
        });
        Due.edge("wants: 0 to 99 at first", () -> {
            PlateTown x = southAndNorth();
            Due.is("good of FAMILY 0", 450, x.good(0, 0));
            Due.is("good of FAMILY 1", 450, x.good(1, 1));
            Due.tell(x, "house 80 1;window 2 4 0");
            Due.is("good of a later one", 450, x.good(2, 2));
            x.wants(2, 0, 0);
            Due.is("good of a YEAR", 9, x.good(2, 2));
            x.wants(2, 0, 99);
            Due.is("good of all again", 450, x.good(2, 2));
        });
        Due.edge("wants: of that FAMILY alone, wherever it lives", () -> {
            PlateTown x = swapped();
            x.wants(0, 50, 50);
            Due.is("of FAMILY 0, which lives in HOUSE 1", 9, x.good(0, 1));
            Due.is("of FAMILY 1", 450, x.good(1, 0));
        });
    }

    /** FAMILY 0 lives in HOUSE 1, which faces north, and FAMILY 1 in HOUSE 0. */
    private static PlateTown swapped() {
        PlateTown x = southAndNorth();
        x.wants(0, 50, 99);
        x.wants(1, 0, 49);
        Due.is("they move", 2, x.move());
        return x;
    }

    // ---- promise 34 ----

    private static void good() {
        PlateTown x = southAndNorth();
        Due.edge("good: IndexOutOfBoundsException: no such FAMILY", () ->
                Due.bounds("good", 2, family -> x.good(family, 0)));
        Due.edge("good: IndexOutOfBoundsException: no such HOUSE", () ->
                Due.bounds("good of HOUSE", 2, house -> x.good(0, house)));
        Due.edge("GOOD: LIGHT in these YEARS, both ends, too", () -> {
            int[][] told = {{0, 0, 9}, {49, 49, 9}, {50, 50, 0}, {49, 50, 9}, {48, 49, 18}, {99, 99, 0}, {0, 49, 450},
                {50, 99, 0}, {0, 99, 450}};
            for (int[] years : told) {
                x.wants(0, years[0], years[1]);
                Due.is("good from " + years[0] + " to " + years[1], years[2], x.good(0, 0));
            }
        });
        Due.edge("GOOD: of a HOUSE without a WINDOW", () -> {
            PlateTown y = Due.town("rate 0;house 40 1");
            Due.is("good", 0, y.good(0, 0));
        });
        Due.edge("GOOD: of the HOUSE, whoever lives in it", () -> {
            PlateTown y = swapped();
            Due.is("FAMILY 0, HOUSE 0", 0, y.good(0, 0));
            Due.is("FAMILY 0, HOUSE 1", 450, y.good(0, 1));
        });
    }

    // ---- promise 35 ----

    private static void swapsRefused() {
        PlateTown x = southAndNorth();
        Due.edge("swaps: IndexOutOfBoundsException: no such FAMILY (but NONE)", () -> {
            Due.is("NONE", 2, x.swaps(PlateTown.NONE, 0));
            Due.is("the first", 0, x.swaps(0, 0));
            Due.is("the last", 1, x.swaps(1, 0));
            for (int family : new int[] {2, -2, Integer.MIN_VALUE, Integer.MAX_VALUE}) {
                Due.outside("swaps of " + family, () -> x.swaps(family, 0));
            }
            Due.outside("swaps of 0 on an empty plate", () -> new PlateTown().swaps(0, 0));
        });
        Due.edge("swaps: NoSuchElementException: another what", () -> {
            for (int what : new int[] {-1, 2, 3, Integer.MIN_VALUE, Integer.MAX_VALUE}) {
                Due.another("swaps what " + what, () -> x.swaps(-1, what));
                Due.another("swaps of FAMILY 0, what " + what, () -> x.swaps(0, what));
            }
        });
        Due.edge("swaps: IndexOutOfBoundsException ahead of NoSuchElementException", () -> {
            Due.outside("no FAMILY, what 2", () -> x.swaps(2, 2));
            Due.outside("FAMILY -2, what -1", () -> x.swaps(-2, -1));
        });
        Due.edge("swaps: -3, if there are more than 7 HOUSES", () -> {
            PlateTown seven = Due.town("rate 0;" + SEVEN);
            Due.is("7, how many", 5040, seven.swaps(-1, 0));
            Due.is("7, the most", 0, seven.swaps(-1, 1));
            Due.is("7, of a FAMILY", 6, seven.swaps(6, 0));
            Due.tell(seven, "house 80 1");
            Due.is("8, how many", -3, seven.swaps(-1, 0));
            Due.is("8, the most", -3, seven.swaps(-1, 1));
            Due.is("8, of the last FAMILY", -3, seven.swaps(7, 0));
            Due.is("8, of the first FAMILY", -3, seven.swaps(0, 1));
            Due.outside("8, no such FAMILY", () -> seven.swaps(8, 0));
            Due.another("8, another what", () -> seven.swaps(-1, 2));
            Due.tell(seven, "house 78 1;house 76 1");
            Due.is("10", -3, seven.swaps(-1, 0));
        });
        Due.edge("swaps: of a FAMILY, by what 0 and 1 alike", () -> {
            PlateTown y = southAndNorth();
            y.wants(0, 50, 99);
            y.wants(1, 0, 49);
            Due.is("what 0", 1, y.swaps(0, 0));
            Due.is("what 1", 1, y.swaps(0, 1));
        });
        Due.edge("swaps: nobody moves by asking", () -> {
            PlateTown y = southAndNorth();
            y.wants(0, 50, 99);
            y.wants(1, 0, 49);
            Due.keeps(y, "swaps", () -> Due.is("HOUSE of FAMILY 0", 1, y.swaps(0, 0)));
        });
    }

    private static void howMany() {
        Due.edge("SWAPS: of no HOUSE, one way", () -> {
            Due.is("how many", 1, new PlateTown().swaps(-1, 0));
            Due.is("the most", 0, new PlateTown().swaps(-1, 1));
        });
        Due.edge("SWAPS: of one HOUSE, one way", () -> {
            PlateTown x = Due.town("rate 0;house 40 1;window 0 4 0");
            Due.is("how many", 1, x.swaps(-1, 0));
            Due.is("the most", 900, x.swaps(-1, 1));
            Due.is("it stays", 0, x.swaps(0, 0));
        });
        Due.edge("SWAPS: nobody has less GOOD: as much is enough", () -> {
            PlateTown x = Due.town("rate 0;house 40 1;house 44 1;window 0 3 0;window 1 5 0");
            Due.is("8 and 8", 2, x.swaps(-1, 0));
        });
        Due.edge("SWAPS: nobody has less GOOD: less by one is less", () -> {
            PlateTown x = Due.town("rate 0;house 40 1;house 44 1;window 0 4 0;window 1 3 0");
            x.wants(0, 0, 0);
            Due.is("FAMILY 0 would have 8, not 9", 1, x.swaps(-1, 0));
            PlateTown y = Due.town("rate 0;house 40 1;house 44 1;window 0 3 0;window 1 4 0");
            y.wants(1, 0, 0);
            Due.is("FAMILY 1 would have 8, not 9", 1, y.swaps(-1, 0));
        });
        Due.edge("SWAPS: than where it lives now, not at first", () -> {
            PlateTown x = swapped();
            Due.is("neither goes back", 1, x.swaps(-1, 0));
            Due.is("FAMILY 0", 1, x.swaps(0, 0));
        });
        Due.edge("SWAPS: 7 HOUSES: those of one kind alone", () -> {
            // six dark HOUSES and a bright one, whose FAMILY stays
            PlateTown x = Due.town("rate 0;" + SEVEN + ";window 3 4 0");
            Due.is("how many", 720, x.swaps(-1, 0));
            Due.is("the most", 900, x.swaps(-1, 1));
            Due.is("FAMILY 3", 3, x.swaps(3, 0));
        });
    }

    private static void theMost() {
        Due.edge("SWAPS: the most GOOD of all together", () -> {
            PlateTown x = southAndNorth();
            x.wants(0, 50, 99);
            x.wants(1, 0, 49);
            Due.is("how many", 2, x.swaps(-1, 0));
            Due.is("the most", 900, x.swaps(-1, 1));
            Due.is("FAMILY 0", 1, x.swaps(0, 0));
            Due.is("FAMILY 1", 0, x.swaps(1, 0));
        });
        Due.edge("SWAPS: the most by one", () -> {
            // FAMILY 0 loses nothing by going, FAMILY 1 wins an HOUR
            PlateTown x = Due.town("rate 0;house 40 1;house 44 1;window 0 4 0;window 1 3 0;start 0;wind 0 0 12");
            x.wants(1, 0, 0);
            x.wants(0, 1, 1);
            // by ANGLE 12 a WINDOW to 3 has 9 HOURS, one to 4 has 8
            Due.is("how many", 2, x.swaps(-1, 0));
            Due.is("the most", 18, x.swaps(-1, 1));
            Due.is("FAMILY 0", 1, x.swaps(0, 0));
        });
    }

    private static void theFirst() {
        Due.edge("SWAPS: of several the first, by the HOUSE of FAMILY 0", () -> {
            PlateTown x = swapped();
            x.wants(0, 49, 50);
            x.wants(1, 49, 50);
            Due.is("as good all", 2, x.swaps(-1, 0));
            Due.is("the most", 18, x.swaps(-1, 1));
            Due.is("FAMILY 0", 0, x.swaps(0, 0));
            Due.is("FAMILY 1", 1, x.swaps(1, 0));
        });
        Due.edge("SWAPS: of several the first, then by the HOUSE of FAMILY 1", () -> {
            PlateTown x = turned("house 36 1;house 40 1;house 44 1;window 1 4 0;window 2 0 0");
            x.wants(1, 50, 99);
            x.wants(2, 0, 49);
            Due.is("1 and 2 move", 2, x.move());
            x.wants(1, 49, 50);
            x.wants(2, 49, 50);
            Due.is("two ways", 2, x.swaps(-1, 0));
            Due.is("FAMILY 0", 0, x.swaps(0, 0));
            Due.is("FAMILY 1", 1, x.swaps(1, 0));
            Due.is("FAMILY 2", 2, x.swaps(2, 0));
            Due.is("they move back", 2, x.move());
        });
        Due.edge("SWAPS: of several the first, but of those with the most alone", () -> {
            PlateTown x = turned("house 36 1;house 40 1;house 44 1;window 1 0 0;window 0 4 0");
            x.wants(0, 0, 49);
            x.wants(2, 50, 99);
            x.wants(1, 99, 99);
            Due.is("FAMILY 1 stays in HOUSE 1, where it has 9", 1, x.swaps(1, 0));
            x.wants(1, 0, 0);
            Due.is("all could stay, or 1 and 2 change", 2, x.swaps(-1, 0));
            Due.is("FAMILY 1", 2, x.swaps(1, 0));
            Due.is("FAMILY 2", 1, x.swaps(2, 0));
            Due.is("FAMILY 0", 0, x.swaps(0, 0));
        });
    }

    // ---- promise 36 ----

    private static void move() {
        Due.edge("move: -3, and nothing happens, if there are more than 7 HOUSES", () -> {
            PlateTown x = turned("house 40 1;house 44 1;window 0 4 0;window 1 0 0");
            Due.tell(x, "house 0 1;house 2 1;house 4 1;house 6 1;house 8 1;house 18 1");
            x.wants(0, 50, 99);
            x.wants(1, 0, 49);
            Due.keeps(x, "move", () -> Due.is("move", -3, x.move()));
        });
        Due.edge("move: of 7 HOUSES", () -> {
            PlateTown x = turned("house 40 1;house 44 1;window 0 4 0;window 1 0 0");
            Due.tell(x, "house 0 1;house 2 1;house 4 1;house 6 1;house 8 1");
            x.wants(0, 50, 99);
            x.wants(1, 0, 49);
            Due.is("move", 2, x.move());
            int[] families = {1, 0, 2, 3, 4, 5, 6};
            for (int house = 0; house < 7; house++) {
                Due.is("FAMILY in " + house, families[house], x.look(house, 3));
            }
        });
        Due.edge("move: nobody, of none, and of those that stay", () -> {
            Due.is("none", 0, new PlateTown().move());
            PlateTown x = southAndNorth();
            Due.keeps(x, "move", () -> Due.is("they stay", 0, x.move()));
        });
        Due.edge("MOVED: how many live elsewhere than ahead of it, not than at first", () -> {
            PlateTown x = swapped();
            Due.is("once more", 0, x.move());
            x.wants(0, 49, 50);
            x.wants(1, 49, 50);
            Due.is("back home", 2, x.move());
            Due.is("FAMILY in 0", 0, x.look(0, 3));
            Due.is("FAMILY in 1", 1, x.look(1, 3));
        });
        Due.edge("MOVED: a HOUSE that is told later has the FAMILY of its number", () -> {
            PlateTown x = swapped();
            Due.tell(x, "house 80 1");
            Due.is("FAMILY in 2", 2, x.look(2, 3));
            Due.is("FAMILY in 0", 1, x.look(0, 3));
        });
    }

    // ---- promise 37 ----

    private static void left() {
        Due.edge("LEFT: of no HOUSE", () -> Due.is("left", 0, new PlateTown().left()));
        Due.edge("LEFT: of ten HOUSES", () -> {
            PlateTown x = Due.town("rate 0;" + SEVEN, "house 76 1;house 78 1;house 80 1");
            Due.is("all", 0b1111111111, x.left());
            Due.tell(x, "window 9 4 0;window 0 4 0");
            Due.is("but the first and the last", 0b0111111110, x.left());
        });
        Due.edge("LEFT: in the YEAR of STOP, not ahead of it", () -> {
            PlateTown x = southAndNorth();
            Due.is("stop", 50, x.stop());
            Due.is("frost ahead of it", 0b10, x.houses(49, 0));
            Due.is("left", 0b01, x.left());
        });
        Due.edge("LEFT: in YEAR 0, if it never turns", () -> {
            PlateTown x = Due.town("rate 0;house 40 1;house 44 1;window 0 4 0;window 1 0 0");
            Due.is("left", 0b10, x.left());
        });
        Due.edge("LEFT: in YEAR 99, if it turns to the end", () -> {
            PlateTown x = Due.town("rate 8;calm 0 99 8;wind 98 98 20;house 40 1;house 44 1;window 0 4 0;window 1 0 0");
            x.rope(98, 20);
            Due.is("stop", 99, x.stop());
            Due.is("left", 0b01, x.left());
        });
    }
}
