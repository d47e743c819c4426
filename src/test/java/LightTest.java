/** Promises 11 to 14: lit, light, bright and houses. */
public final class LightTest {
    /** By ANGLE 0: hours 0, 1 from DIRECTION 2; 2 to 4 from 3; 5 to 7 from 4; 8 to 10 from 5; 11, 12 from 6. */
    private static final int[] LIGHT_BY_FACING = {0, 2, 5, 8, 9, 8, 5, 2};

    public static void main(String[] args) {
        lit();
        shade();
        light();
        bright();
        houses();
        windy();
        Due.close();
    }

    private static void lit() {
        PlateTown x = Due.town("rate 0;house 40 1;window 0 4 0;window 0 2 0;window 0 7 0;window 0 0 0");
        boolean[] south = {false, false, true, true, true, true, true, true, true, true, true, false, false};
        for (int hour = 0; hour <= 12; hour++) {
            Due.is("lit south in " + hour, south[hour], x.lit(0, hour, 50));
            Due.is("lit east in " + hour, hour < 5, x.lit(1, hour, 50));
            Due.is("lit 7 in " + hour, hour > 10, x.lit(2, hour, 50));
            Due.is("lit north in " + hour, false, x.lit(3, hour, 50));
        }
        Due.outside("lit hour 13", () -> x.lit(0, 13, 0));
        Due.outside("lit hour -1", () -> x.lit(0, -1, 0));
        Due.outside("lit year 100", () -> x.lit(0, 0, 100));
        Due.outside("lit year -1", () -> x.lit(0, 0, -1));
        Due.outside("lit window 4", () -> x.lit(4, 0, 0));
        Due.outside("lit window -1", () -> x.lit(-1, 0, 0));
        Due.tell(x, "start 48");
        Due.is("turned by a half: north is lit", true, x.lit(3, 6, 0));
        Due.is("7 is beside 0", true, x.lit(2, 6, 0));
        Due.is("south is not", false, x.lit(0, 6, 0));
        Due.tell(x, "start 54");
        Due.is("up to half a DIRECTION", true, x.lit(2, 6, 0));
        Due.is("floor of the half: 90 and 6 are DIRECTION 0 still", true, x.lit(3, 6, 0));
        Due.tell(x, "start 0;rate 12");
        Due.is("year by year", false, x.lit(1, 6, 0));
        Due.is("a year later", true, x.lit(1, 6, 1));
    }

    private static void shade() {
        PlateTown x = Due.town("rate 0;house 40 1;window 0 4 0;house 31 6");
        Due.is("6 high does not shade HIGH 6", true, x.lit(0, 5, 0));
        x.build(1, 1);
        Due.is("7 shades HIGH 6", false, x.lit(0, 5, 0));
        Due.is("and in the afternoon", false, x.lit(0, 7, 0));
        Due.is("but not HIGH 7", true, x.lit(0, 6, 0));
        x.build(1, 1);
        Due.is("8 shades HIGH 7", false, x.lit(0, 6, 0));
        Due.is("no shade on another DIRECTION", true, x.lit(0, 4, 0));
        Due.tell(x, "window 0 4 1");
        Due.is("8 does not shade HIGH 7 for UP 1", true, x.lit(1, 6, 0));
        Due.is("8 shades HIGH 6 for UP 1", false, x.lit(1, 5, 0));

        PlateTown far = Due.town("rate 0;house 76 1;window 0 4 0;house 4 30;house 58 14;window 2 3 29");
        Due.is("two off", true, far.lit(0, 6, 0));
        far.build(2, 1);
        Due.is("two off, 15 shades 14", false, far.lit(0, 6, 0));
        far.undo();
        far.undo();
        Due.is("8 off shades nothing at noon", true, far.lit(0, 6, 0));
        Due.is("own house does not shade", 8, far.light(1, 0, 0));

        PlateTown slant = Due.town("rate 0;house 40 1;window 0 3 0;house 32 5;house 24 10;house 16 15;house 8 20");
        Due.is("slanting, none above its steps", true, slant.lit(0, 4, 0));
        Due.is("slanting, lower sun", false, slant.lit(0, 3, 0));
        slant.build(0, 29);
        Due.is("a house does not shade itself", true, slant.lit(0, 4, 0));
        slant.build(4, 1);
        Due.is("to the edge", false, slant.lit(0, 4, 0));
        slant.undo();
        slant.build(3, 1);
        Due.is("3 off", false, slant.lit(0, 4, 0));

        PlateTown corner = Due.town("rate 0;house 40 1;window 0 5 0;house 0 13");
        Due.is("the CELL 0, 13 high", false, corner.lit(0, 10, 0));
        Due.is("the CELL 0, higher sun", true, corner.lit(0, 9, 0));

        PlateTown beyond = Due.town("rate 0;house 8 1;window 0 2 0;house 9 30;house 17 30");
        Due.is("no way around the edge", true, beyond.lit(0, 0, 0));
    }

    private static void light() {
        for (int facing = 0; facing < 8; facing++) {
            PlateTown x = Due.town("rate 0;house 40 1;window 0 " + facing + " 0");
            Due.is("light by facing " + facing, LIGHT_BY_FACING[facing], x.light(0, 0, 0));
            Due.is("light of 100 years", 100 * LIGHT_BY_FACING[facing], x.light(0, 0, 99));
        }
        PlateTown x = Due.town("rate 0;house 40 1;window 0 4 0");
        x.rope(0, 12);
        Due.is("two years", 9 + 8, x.light(0, 0, 1));
        Due.is("from .. to", 8 * 3, x.light(0, 1, 3));
        Due.illegal("light 1 to 0", () -> x.light(0, 1, 0));
        Due.outside("light to 100", () -> x.light(0, 1, 100));
        Due.outside("light from -1", () -> x.light(0, -1, 5));
        Due.outside("light window 1", () -> x.light(1, 1, 0));
        Due.outside("light from 100 to 5", () -> x.light(0, 100, 5));
    }

    private static void bright() {
        PlateTown x = Due.town("rate 0;house 40 1;house 44 1;window 0 4 0;window 1 3 0;window 0 2 0;window 0 4 0");
        Due.is("bright", 9 + 5 + 9, x.bright(0, 7));
        Due.is("bright of another", 8, x.bright(1, 99));
        Due.outside("bright house 2", () -> x.bright(2, 0));
        Due.outside("bright house -1", () -> x.bright(-1, 0));
        Due.outside("bright year 100", () -> x.bright(0, 100));
        Due.outside("bright year -1", () -> x.bright(0, -1));
        Due.tell(x, "house 80 1");
        Due.is("bright without windows", 0, x.bright(2, 0));
    }

    private static void houses() {
        PlateTown x = Due.town("rate 0;house 40 1;house 44 1;house 80 9;window 0 0 0;window 1 1 0;window 2 4 0;window 2 0 0");
        Due.is("frost", 0b001, x.houses(3, 0));
        Due.is("noon", 0b100, x.houses(3, 2));
        x.rope(0, 12);
        Due.is("noon a year later", 0b100, x.houses(1, 2));
        Due.tell(x, "house 0 1");
        Due.is("frost without windows", 0b1001, x.houses(0, 0));
        Due.another("houses what 3", () -> x.houses(0, 3));
        Due.another("houses what -1", () -> x.houses(0, -1));
        Due.outside("houses year 100", () -> x.houses(100, 0));
        Due.outside("houses year -1 ahead of what", () -> x.houses(-1, 5));
    }

    private static void windy() {
        PlateTown x = Due.town("rate 0;house 44 5;house 41 5");
        Due.is("as high, 3 off", 0b10, x.houses(0, 1));
        x.build(0, 1);
        Due.is("lower, 3 off", 0b11, x.houses(0, 1));
        Due.tell(x, "house 40 30");
        Due.is("4 off", 0b101, x.houses(0, 1));
        Due.tell(x, "gusts 24");
        Due.is("the other way", 0b101, x.houses(0, 1));
        Due.tell(x, "start 12;gusts 84");
        Due.is("with the plate turned, 84 is DIRECTION 6", 0b101, x.houses(0, 1));
        Due.tell(x, "gusts 0");
        Due.is("north-west", 0b111, x.houses(0, 1));
        PlateTown corner = Due.town("house 3 1;house 0 1");
        Due.is("a house on CELL 0", 0b10, corner.houses(0, 1));
        PlateTown edge = Due.town("house 9 1;house 8 30");
        Due.is("not around the edge", 0b11, edge.houses(0, 1));
    }
}
