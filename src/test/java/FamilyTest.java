/** Promises 33 to 37: wants, good, swaps, move and left. */
public final class FamilyTest {
    public static void main(String[] args) {
        wants();
        good();
        swaps();
        several();
        nobodyWorse();
        ring();
        manyHouses();
        move();
        left();
        Due.close();
    }

    /** ANGLE 0 to YEAR 48, 24 in YEAR 49, then 48; so what faces south has LIGHT first, and what faces north later. */
    private static PlateTown turned() {
        PlateTown x = Due.town("rate 0;house 40 1;house 44 1;window 0 4 0;window 1 0 0;wind 48 48 4");
        x.rope(48, 20);
        x.rope(49, 20);
        Due.tell(x, "wind 49 49 4");
        return x;
    }

    private static void wants() {
        PlateTown x = turned();
        Due.is("good at first", 49 * 9 + 5, x.good(0, 0));
        x.wants(0, 0, 0);
        Due.is("good of a year", 9, x.good(0, 0));
        Due.is("good for the other", 49 * 9 + 5, x.good(1, 0));
        x.wants(0, 48, 50);
        Due.is("good of some years", 9 + 5, x.good(0, 0));
        x.wants(1, 99, 99);
        Due.is("good of the last year", 9, x.good(1, 1));
        Due.illegal("wants 1 to 0", () -> x.wants(0, 1, 0));
        Due.outside("wants family 2", () -> x.wants(2, 1, 0));
        Due.outside("wants family -1", () -> x.wants(-1, 0, 0));
        Due.outside("wants from -1", () -> x.wants(0, -1, 0));
        Due.outside("wants to 100", () -> x.wants(0, 0, 100));
        Due.is("good as before", 9 + 5, x.good(0, 0));
    }

    private static void good() {
        PlateTown x = turned();
        Due.is("good of the north", 50 * 9 + 5, x.good(0, 1));
        Due.tell(x, "window 0 4 3;house 0 1");
        Due.is("good of all windows", 2 * (49 * 9 + 5), x.good(2, 0));
        Due.is("good without windows", 0, x.good(0, 2));
        Due.outside("good family 3", () -> x.good(3, 0));
        Due.outside("good family -1", () -> x.good(-1, 0));
        Due.outside("good house 3", () -> x.good(0, 3));
        Due.outside("good house -1", () -> x.good(0, -1));
    }

    private static void swaps() {
        PlateTown x = turned();
        Due.is("neither would go", 1, x.swaps(-1, 0));
        Due.is("their good", 446 + 455, x.swaps(-1, 1));
        x.wants(0, 50, 99);
        x.wants(1, 0, 48);
        Due.is("how many", 2, x.swaps(-1, 0));
        Due.is("the most", 50 * 9 + 49 * 9, x.swaps(-1, 1));
        Due.is("family 0 goes", 1, x.swaps(0, 0));
        Due.is("family 1 goes", 0, x.swaps(1, 1));
        Due.is("nobody has gone yet", 0, x.look(0, 3));
        Due.another("swaps what 2", () -> x.swaps(-1, 2));
        Due.another("swaps what -1", () -> x.swaps(-1, -1));
        Due.another("swaps of a family what 2", () -> x.swaps(0, 2));
        Due.outside("swaps family 2", () -> x.swaps(2, 0));
        Due.outside("swaps family -2", () -> x.swaps(-2, 9));
        PlateTown empty = new PlateTown();
        Due.is("one way to live nowhere", 1, empty.swaps(-1, 0));
        Due.is("no good", 0, empty.swaps(-1, 1));
        Due.outside("swaps family 0 of none", () -> empty.swaps(0, 0));
        Due.is("nobody moves", 0, empty.move());
    }

    private static void several() {
        PlateTown x = turned();
        x.wants(0, 50, 99);
        x.wants(1, 0, 48);
        x.move();
        x.wants(0, 49, 49);
        x.wants(1, 49, 49);
        Due.is("both as good", 2, x.swaps(-1, 0));
        Due.is("the most", 10, x.swaps(-1, 1));
        Due.is("the first", 0, x.swaps(0, 0));
        Due.is("the first of the other", 1, x.swaps(1, 0));
        Due.is("they move for nothing", 2, x.move());
        Due.is("back at home", 0, x.look(0, 3));
        Due.is("now they stay", 0, x.move());
        PlateTown three = Due.town("house 0 1;house 8 1;house 80 1");
        Due.is("all ways", 6, three.swaps(-1, 0));
        Due.is("family 0 first", 0, three.swaps(0, 0));
        Due.is("family 1 next", 1, three.swaps(1, 0));
        Due.is("family 2 last", 2, three.swaps(2, 0));
    }

    /** GOOD by a YEAR: HOUSE 0 has 9, 1 has 5, 2 has 8. */
    private static void nobodyWorse() {
        PlateTown x = Due.town("rate 0;house 40 1;house 44 1;house 36 1;window 0 4 0;window 1 2 0;window 2 3 0");
        Due.is("all want the same", 1, x.swaps(-1, 0));
        Due.is("its good", 2200, x.swaps(-1, 1));
        x.wants(0, 7, 7);
        Due.is("the years alone tell nothing", 1, x.swaps(-1, 0));
        Due.is("family 0 stays in the best", 0, x.swaps(0, 0));
        Due.tell(x, "window 1 3 0");
        Due.is("house 1 has most, and family 1 stays", 1, x.swaps(-1, 0));
        Due.is("the most", 9 + 1300 + 800, x.swaps(-1, 1));
    }

    /** GOOD of HOUSES 0, 1, 2 is 0, 450, 250 for FAMILY 0; 5, 5, 9 for 1; 441, 0, 245 for 2. */
    private static void ring() {
        PlateTown x = turned();
        Due.tell(x, "house 36 1;window 2 2 0");
        x.wants(0, 50, 99);
        x.wants(1, 49, 49);
        x.wants(2, 0, 48);
        Due.is("fair ways", 4, x.swaps(-1, 0));
        Due.is("the best", 450 + 9 + 441, x.swaps(-1, 1));
        Due.is("family 0", 1, x.swaps(0, 0));
        Due.is("family 1", 2, x.swaps(1, 0));
        Due.is("family 2", 0, x.swaps(2, 0));
        Due.is("all move", 3, x.move());
        Due.is("who lives in 0", 2, x.look(0, 3));
        Due.is("who lives in 1", 0, x.look(1, 3));
        Due.is("who lives in 2", 1, x.look(2, 3));
    }

    private static void manyHouses() {
        PlateTown x = Due.town("house 0 1;house 2 1;house 4 1;house 6 1;house 8 1;house 18 1;house 20 1");
        Due.is("7 houses", 5040, x.swaps(-1, 0));
        Due.is("7 houses: the last stays", 6, x.swaps(6, 0));
        Due.is("7 houses: none moves", 0, x.move());
        Due.tell(x, "house 22 1");
        Due.is("8 houses", -3, x.swaps(-1, 0));
        Due.is("8 houses, the most", -3, x.swaps(-1, 1));
        Due.is("8 houses, a family", -3, x.swaps(7, 0));
        Due.outside("8 houses, no such family", () -> x.swaps(8, 0));
        Due.another("8 houses, another what", () -> x.swaps(0, 2));
        Due.is("8 houses move", -3, x.move());
        Due.is("and nothing happens", 7, x.look(7, 3));
    }

    private static void move() {
        PlateTown x = turned();
        Due.is("nobody", 0, x.move());
        x.wants(0, 50, 99);
        x.wants(1, 0, 48);
        Due.is("both", 2, x.move());
        Due.is("who lives in 0", 1, x.look(0, 3));
        Due.is("who lives in 1", 0, x.look(1, 3));
        Due.is("nobody again", 0, x.move());
        Due.is("one way alone", 1, x.swaps(-1, 0));
        Due.tell(x, "house 0 1");
        Due.is("a new house has its own family", 2, x.look(2, 3));
        Due.is("the others stay", 1, x.look(0, 3));
        x.wants(0, 0, 48);
        x.wants(1, 50, 99);
        Due.is("all, for family 1 loses nothing in the dark", 3, x.move());
        Due.is("home again", 0, x.look(0, 3));
        Due.is("the new one in the north", 2, x.look(1, 3));
    }

    private static void left() {
        PlateTown x = Due.town("rate 12;house 40 1;house 44 1;house 0 1;window 0 4 0;window 1 0 0;bar 48");
        Due.is("the plate stops", 4, x.stop());
        Due.is("frost at first", 0b110, x.houses(0, 0));
        Due.is("left in frost", 0b101, x.left());
        Due.tell(x, "bar 0");
        Due.is("left at the start", 0b110, x.left());
        Due.is("nobody is left", 0, new PlateTown().left());
        PlateTown turning = Due.town("house 40 1;window 0 4 0;rate 1;start 45");
        Due.is("in the last year, of no stop", turning.houses(99, 0), turning.left());
        Due.is("which is frost", 1, turning.left());
    }
}
