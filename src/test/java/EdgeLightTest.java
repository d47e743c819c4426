/** The edges that the Terms and promises 11 to 14 name for the sun, LIT, shade, LIGHT, NOON, FROST and WINDY. */
public final class EdgeLightTest {
    /** CELLS beside CELL 40 by DIRECTION. */
    private static final int[] BESIDE = {49, 50, 41, 32, 31, 30, 39, 48};
    private static final String TEN_HOUSES = "house 0 1;house 2 1;house 4 1;house 6 1;house 8 1;house 18 1;house 20 1;"
            + "house 22 1;house 24 1;house 26 1";

    public static void main(String[] args) {
        bounds();
        directions();
        sun();
        shade();
        light();
        bright();
        houses();
        noonAndFrost();
        windy();
        Due.close();
    }

    // ---- promise 11 ----

    private static void bounds() {
        PlateTown x = Due.town("house 40 1;window 0 4 0;window 0 4 0;window 0 4 0");
        Due.edge("lit: IndexOutOfBoundsException: no such WINDOW", () -> {
            Due.bounds("lit", 3, window -> x.lit(window, 0, 0));
            Due.noSuch("lit of an empty plate", 0, window -> new PlateTown().lit(window, 0, 0));
        });
        Due.edge("lit: IndexOutOfBoundsException: no such HOUR (0 to 12)", () ->
                Due.bounds("lit in HOUR", 13, hour -> x.lit(0, hour, 0)));
        Due.edge("lit: IndexOutOfBoundsException: no such YEAR", () ->
                Due.bounds("lit in YEAR", 100, year -> x.lit(0, 0, year)));
    }

    // ---- DIRECTIONS ----

    private static void directions() {
        Due.edge("the DIRECTION of P less ANGLE and 6, by 12 (rounded down), modulo 8; own one, or one beside it",
                EdgeLightTest::litByAngle);
        Due.edge("one beside it (7 and 0, too)", () -> {
            Due.is("7, sun in 0", true, facing(7, 48));
            Due.is("0, sun in 7", true, facing(0, 60));
            Due.is("6, sun in 0", false, facing(6, 48));
            Due.is("1, sun in 7", false, facing(1, 60));
            Due.is("1, sun in 0", true, facing(1, 48));
            Due.is("0, sun in 1", true, facing(0, 36));
        });
        Due.edge("one beside it, not two", () -> {
            Due.is("sun in 4, 2", false, facing(2, 0));
            Due.is("sun in 4, 3", true, facing(3, 0));
            Due.is("sun in 4, 5", true, facing(5, 0));
            Due.is("sun in 4, 6", false, facing(6, 0));
        });
    }

    private static boolean facing(int direction, int start) {
        return Due.town("rate 0;start " + start + ";house 40 1;window 0 " + direction + " 0").lit(0, 6, 0);
    }

    /** At noon the sun lies towards 48: from 18 PARTS ahead of the middle of the WINDOW's DIRECTION to 17 behind. */
    private static void litByAngle() {
        for (int start = 0; start < 96; start++) {
            PlateTown x = Due.town("rate 0;start " + start + ";house 40 1;window 0 0 0;window 0 1 0;window 0 2 0;"
                    + "window 0 3 0;window 0 4 0;window 0 5 0;window 0 6 0;window 0 7 0");
            for (int direction = 0; direction < 8; direction++) {
                boolean isLit = Math.floorMod(48 - start - 12 * direction + 18, 96) < 36;
                Due.is("DIRECTION " + direction + " by ANGLE " + start, isLit, x.lit(direction, 6, 0));
            }
        }
    }

    // ---- the sun ----

    private static void sun() {
        Due.edge("the sun lies towards 24 and 4 times the HOUR", EdgeLightTest::sunByHour);
        Due.edge("HIGH by 1 and the lesser of the HOUR and 12 less it", EdgeLightTest::highByHour);
    }

    private static void sunByHour() {
        for (int hour = 0; hour <= 12; hour++) {
            // the sun goes to DIRECTION 2 there, of a WINDOW that faces 1: 41 PARTS is not, 42 is DIRECTION 3
            int last = Math.floorMod(24 + 4 * hour - 29, 96);
            int beyond = Math.floorMod(24 + 4 * hour - 30, 96);
            String house = ";rate 0;house 40 1;window 0 1 0";
            Due.is("hour " + hour, true, Due.town("start " + last + house).lit(0, hour, 0));
            Due.is("hour " + hour + " beyond", false, Due.town("start " + beyond + house).lit(0, hour, 0));
        }
    }

    private static void highByHour() {
        int[] high = {1, 2, 3, 4, 5, 6, 7, 6, 5, 4, 3, 2, 1};
        for (int hour = 0; hour <= 12; hour++) {
            int start = Math.floorMod(24 + 4 * hour - 48, 96);
            PlateTown x = Due.town("rate 0;start " + start + ";house 40 1;window 0 4 0;house 31 " + high[hour]);
            Due.is("as high as the sun in " + hour, true, x.lit(0, hour, 0));
            x.build(1, 1);
            Due.is("higher than the sun in " + hour, false, x.lit(0, hour, 0));
        }
    }

    // ---- shade ----

    private static void shade() {
        Due.edge("shade: 1, 2, .. CELLS off, to the edge; above, not as high", EdgeLightTest::shadeByDistance);
        Due.edge("shade: HEIGHT less UP", EdgeLightTest::shadeByUp);
        Due.edge("shade: in the sun's DIRECTION alone, each of the 8", EdgeLightTest::shadeByDirection);
        Due.edge("shade: its own HOUSE does not shade", () -> {
            PlateTown x = Due.town("rate 0;house 40 30;window 0 4 0");
            Due.is("light", 9, x.light(0, 0, 0));
        });
        Due.edge("shade: to the edge, and not around it", EdgeLightTest::noShadeAround);
        Due.edge("shade: some HOUSE, not the next one alone", () -> {
            // by ANGLE 72 the sun of HOUR 0 is in DIRECTION 4, HIGH 1
            PlateTown x = Due.town("rate 0;start 72;house 72 1;window 0 4 0;house 63 1;house 54 1;house 0 8");
            Due.is("none", true, x.lit(0, 0, 0));
            x.build(3, 1);
            Due.is("the last one", false, x.lit(0, 0, 0));
            x.undo();
            x.build(2, 2);
            Due.is("the second one", false, x.lit(0, 0, 0));
        });
        Due.edge("shade: of HEIGHT as it is built and undone", () -> {
            PlateTown x = Due.town("rate 0;house 40 1;window 0 4 0;house 31 7");
            Due.is("ahead", true, x.lit(0, 6, 0));
            x.build(1, 1);
            Due.is("built", false, x.lit(0, 6, 0));
            x.undo();
            Due.is("undone", true, x.lit(0, 6, 0));
        });
    }

    private static void shadeByDistance() {
        for (int off = 1; off <= 8; off++) {
            // by ANGLE 72 the sun of HOUR 0 is in DIRECTION 4, HIGH 1
            PlateTown x = Due.town("rate 0;start 72;house 76 1;window 0 4 0;house " + (76 - 9 * off) + " " + off);
            Due.is(off + " off, as high", true, x.lit(0, 0, 0));
            x.build(1, 1);
            Due.is(off + " off, above", false, x.lit(0, 0, 0));
            // at noon HIGH 7: a HOUSE of 30 shades 4 CELLS off, and no more 5 off
            PlateTown y = Due.town("rate 0;house 76 1;window 0 4 0;house " + (76 - 9 * off) + " " + Math.min(30, 7 * off));
            Due.is(off + " off at noon", true, y.lit(0, 6, 0));
            if (off <= 4) {
                y.build(1, 1);
                Due.is(off + " off, above at noon", false, y.lit(0, 6, 0));
            }
        }
    }

    private static void shadeByUp() {
        for (int up = 0; up <= 22; up++) {
            PlateTown x = Due.town("rate 0;house 40 1;window 0 4 " + up + ";house 31 " + (7 + up));
            Due.is("UP " + up, true, x.lit(0, 6, 0));
            x.build(1, 1);
            Due.is("UP " + up + ", above", false, x.lit(0, 6, 0));
        }
        Due.is("UP 29 and HEIGHT 30, HIGH 1", true,
                Due.town("rate 0;start 72;house 40 1;window 0 4 29;house 31 30").lit(0, 0, 0));
        Due.is("UP 28 and HEIGHT 30, HIGH 1", false,
                Due.town("rate 0;start 72;house 40 1;window 0 4 28;house 31 30").lit(0, 0, 0));
        Due.is("UP above the HEIGHT of all", true,
                Due.town("rate 0;house 40 1;window 0 4 29;house 31 1").lit(0, 6, 0));
    }

    private static void shadeByDirection() {
        for (int sun = 0; sun < 8; sun++) {
            int start = Math.floorMod(48 - 12 * sun, 96);
            for (int house = 0; house < 8; house++) {
                PlateTown x = Due.town("rate 0;start " + start + ";house 40 1;window 0 " + sun + " 0;window 0 "
                        + (sun + 1) % 8 + " 0;house " + BESIDE[house] + " 30");
                Due.is("sun in " + sun + ", house in " + house, house != sun, x.lit(0, 6, 0));
                Due.is("sun in " + sun + ", house in " + house + ", aside", house != sun, x.lit(1, 6, 0));
            }
        }
    }

    private static void noShadeAround() {
        PlateTown east = Due.town("rate 0;house 44 1;window 0 2 0;house 45 30;house 53 30;house 36 30");
        Due.is("DIRECTION 2 at x 8", true, east.lit(0, 0, 0));
        PlateTown west = Due.town("rate 0;house 36 1;window 0 6 0;house 35 30;house 27 30;house 44 30");
        Due.is("DIRECTION 6 at x 0", true, west.lit(0, 12, 0));
        PlateTown south = Due.town("rate 0;house 4 1;window 0 4 0;house 76 30;house 80 30");
        Due.is("DIRECTION 4 at y 0", true, south.lit(0, 6, 0));
        PlateTown north = Due.town("rate 0;start 48;house 76 1;window 0 0 0;house 4 30;house 0 30");
        Due.is("DIRECTION 0 at y 8", true, north.lit(0, 6, 0));
        PlateTown corner = Due.town("rate 0;house 8 1;window 0 3 0;house 72 30;house 80 30;house 0 30;house 9 30");
        Due.is("DIRECTION 3 at the corner", true, corner.lit(0, 4, 0));
        PlateTown across = Due.town("rate 0;house 72 1;window 0 3 0;house 8 30");
        Due.is("8 off from corner to corner, HIGH 3 in HOUR 2", false, across.lit(0, 2, 0));
        Due.is("8 off from corner to corner, HIGH 4 in HOUR 3", true, across.lit(0, 3, 0));
    }

    // ---- promise 12 ----

    private static void light() {
        PlateTown x = Due.town("rate 0;house 40 1;window 0 4 0;window 0 0 0");
        Due.edge("light: IndexOutOfBoundsException: no such WINDOW", () ->
                Due.bounds("light", 2, window -> x.light(window, 0, 0)));
        Due.edge("light: YEARS from .. to", () -> Due.span("light", (from, to) -> x.light(0, from, to)));
        Due.edge("light: IndexOutOfBoundsException ahead of IllegalArgumentException", () -> {
            Due.outside("window 2, 1 to 0", () -> x.light(2, 1, 0));
            Due.outside("100 to 0", () -> x.light(0, 100, 0));
            Due.outside("0 to -1", () -> x.light(0, 0, -1));
            Due.outside("100 to -1", () -> x.light(0, 100, -1));
        });
        Due.edge("LIGHT: in how many HOURS: of none", () -> Due.is("light", 0, x.light(1, 0, 99)));
        Due.edge("LIGHT: both YEARS, and all between", () -> {
            PlateTown y = Due.town("rate 0;house 40 1;window 0 4 0;wind 4 4 12;wind 7 7 12");
            // LIT for 9 HOURS by ANGLE 0, 8 by 12, 5 by 24
            Due.is("3 to 4", 18, y.light(0, 3, 4));
            Due.is("4 to 5", 17, y.light(0, 4, 5));
            Due.is("5 to 5", 8, y.light(0, 5, 5));
            Due.is("4 to 8", 9 + 24 + 5, y.light(0, 4, 8));
            Due.is("all", 45 + 24 + 5 * 92, y.light(0, 0, 99));
        });
        Due.edge("LIGHT: of HOURS 0 and 12, too", () -> {
            PlateTown y = Due.town("rate 0;house 40 1;window 0 1 0;window 0 7 0");
            Due.is("HOUR 0", true, y.lit(0, 0, 0));
            Due.is("HOUR 2", false, y.lit(0, 2, 0));
            Due.is("0 and 1", 2, y.light(0, 0, 0));
            Due.is("HOUR 12", true, y.lit(1, 12, 0));
            Due.is("11 and 12", 2, y.light(1, 0, 0));
        });
    }

    // ---- promise 13 ----

    private static void bright() {
        PlateTown x = Due.town("rate 0;house 40 1;house 44 1;window 0 4 0;window 0 4 0;window 0 3 0");
        Due.edge("bright: IndexOutOfBoundsException: no such HOUSE", () ->
                Due.bounds("bright", 2, house -> x.bright(house, 0)));
        Due.edge("bright: IndexOutOfBoundsException: no such YEAR", () ->
                Due.bounds("bright in YEAR", 100, year -> x.bright(0, year)));
        Due.edge("LIGHT of a HOUSE: of all its WINDOWS together", () -> Due.is("bright", 26, x.bright(0, 0)));
        Due.edge("LIGHT of a HOUSE: without a WINDOW none", () -> Due.is("bright", 0, x.bright(1, 0)));
        Due.edge("LIGHT of a HOUSE: of 20 WINDOWS", () -> {
            PlateTown y = Due.town("rate 0;house 40 1" + ";window 0 4 0".repeat(10), "window 0 4 0" + ";window 0 4 0".repeat(9));
            Due.is("bright", 180, y.bright(0, 99));
        });
    }

    // ---- promise 14 ----

    private static void houses() {
        PlateTown x = Due.town("rate 0;house 40 1;window 0 4 0");
        Due.edge("houses: IndexOutOfBoundsException: no such YEAR", () ->
                Due.bounds("houses", 100, year -> x.houses(year, 0)));
        Due.edge("houses: NoSuchElementException: another what", () -> {
            for (int what : new int[] {-1, 3, Integer.MIN_VALUE, Integer.MAX_VALUE}) {
                Due.another("houses what " + what, () -> x.houses(0, what));
            }
        });
        Due.edge("houses: IndexOutOfBoundsException ahead of NoSuchElementException", () -> {
            Due.outside("year 100, what 3", () -> x.houses(100, 3));
            Due.outside("year -1, what -1", () -> x.houses(-1, -1));
        });
        Due.edge("houses: as bits, of none and of ten", () -> {
            for (int what = 0; what <= 2; what++) {
                Due.is("none, what " + what, 0, new PlateTown().houses(0, what));
            }
            PlateTown y = Due.town("rate 0;" + TEN_HOUSES);
            Due.is("all in FROST", 0b1111111111, y.houses(0, 0));
            Due.tell(y, "window 9 4 0;window 0 4 0");
            Due.is("NOON of the first and the last", 0b1000000001, y.houses(99, 2));
            Due.is("FROST of the others", 0b0111111110, y.houses(99, 0));
        });
    }

    private static void noonAndFrost() {
        Due.edge("NOON: some WINDOW of it, in HOUR 6", () -> {
            PlateTown x = Due.town("rate 0;house 40 1;house 44 1;house 36 1;window 0 0 0;window 0 4 0;window 1 2 0");
            Due.is("the second WINDOW; not in another HOUR; without a WINDOW", 0b001, x.houses(0, 2));
        });
        Due.edge("NOON: in HOUR 6, not in those beside it", () -> {
            PlateTown five = Due.town("rate 0;start 5;house 40 1;window 0 2 0");
            Due.is("HOUR 5", true, five.lit(0, 5, 0));
            Due.is("NOON by HOUR 5", 0, five.houses(0, 2));
            PlateTown seven = Due.town("rate 0;start 94;house 40 1;window 0 6 0");
            Due.is("HOUR 7", true, seven.lit(0, 7, 0));
            Due.is("NOON by HOUR 7", 0, seven.houses(0, 2));
            PlateTown six = Due.town("rate 0;house 40 1;window 0 4 0;house 31 7");
            Due.is("HOUR 5, shaded", false, six.lit(0, 5, 0));
            Due.is("HOUR 7, shaded", false, six.lit(0, 7, 0));
            Due.is("NOON by HOUR 6", 0b01, six.houses(0, 2));
        });
        Due.edge("FROST: no LIGHT", () -> {
            PlateTown x = Due.town("rate 0;house 40 1;house 44 1;house 36 1;window 0 0 0;window 1 0 0;window 1 1 0");
            Due.is("no LIGHT of a WINDOW; two HOURS of one; no WINDOW", 0b101, x.houses(0, 0));
        });
        Due.edge("FROST: of that YEAR alone", () -> {
            PlateTown x = Due.town("rate 8;calm 0 99 8;wind 5 5 20;wind 7 7 20;house 40 1;window 0 4 0");
            x.rope(5, 20);
            x.rope(7, 20);
            int[] frost = {0, 1, 1, 0};
            for (int year = 5; year <= 8; year++) {
                Due.is("year " + year, frost[year - 5], x.houses(year, 0));
            }
        });
    }

    private static void windy() {
        Due.edge("WINDY: as high or higher", () -> {
            PlateTown x = Due.town("rate 0;house 40 5;house 39 4");
            Due.is("lower", 0b11, x.houses(0, 1));
            x.build(1, 1);
            Due.is("as high", 0b10, x.houses(0, 1));
            x.build(1, 1);
            Due.is("higher", 0b10, x.houses(0, 1));
        });
        Due.edge("WINDY: on the 3 CELLS from it", () -> {
            int[] windy = {0b10, 0b10, 0b10, 0b11};
            for (int off = 1; off <= 4; off++) {
                Due.is(off + " off", windy[off - 1], Due.town("rate 0;house 40 5;house " + (40 - off) + " 30").houses(0, 1));
            }
        });
        Due.edge("WINDY: as far as there are", () -> {
            Due.is("at the edge, none", 0b111, Due.town("rate 0;house 36 5;house 35 30;house 44 30").houses(0, 1));
            Due.is("one CELL to the edge", 0b110, Due.town("rate 0;house 37 5;house 36 30;house 44 30").houses(0, 1));
            Due.is("two CELLS to the edge", 0b110, Due.town("rate 0;house 38 5;house 36 30;house 44 30").houses(0, 1));
            Due.is("two CELLS, around it none", 0b111, Due.town("rate 0;house 38 5;house 35 30;house 44 30").houses(0, 1));
        });
        Due.edge("WINDY: in the DIRECTION of GUSTS, of each of the 8", EdgeLightTest::windyByDirection);
        Due.edge("WINDY: the DIRECTION of GUSTS less ANGLE and 6, by 12, rounded down", EdgeLightTest::windyByAngle);
        Due.edge("WINDY: without a HOUSE there, by HEIGHT 1", () ->
                Due.is("alone", 1, Due.town("rate 0;house 40 1").houses(0, 1)));
    }

    private static void windyByDirection() {
        for (int gusts = 0; gusts < 8; gusts++) {
            for (int house = 0; house < 8; house++) {
                PlateTown x = Due.town("rate 0;house 40 1;house " + BESIDE[house] + " 30;gusts " + 12 * gusts);
                Due.is("gusts " + gusts + ", house in " + house, house != gusts, (x.houses(0, 1) & 1) == 1);
            }
        }
    }

    /** GUSTS 72 come on DIRECTION 6 by ANGLES 91 to 6. */
    private static void windyByAngle() {
        for (int start = 0; start < 96; start++) {
            PlateTown x = Due.town("rate 0;house 40 1;house 39 30;start " + start);
            Due.is("ANGLE " + start, start > 6 && start < 91, (x.houses(0, 1) & 1) == 1);
        }
        for (int gusts = 0; gusts < 96; gusts++) {
            PlateTown x = Due.town("rate 0;house 40 1;house 49 30;gusts " + gusts);
            Due.is("GUSTS " + gusts, gusts > 5 && gusts < 90, (x.houses(0, 1) & 1) == 1);
        }
    }
}
