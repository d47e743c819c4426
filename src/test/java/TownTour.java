/** A small town, told and asked. README.md shows this program and what it prints. */
public final class TownTour {
    public static void main(String[] args) {
        PlateTown town = new PlateTown();

        // HOUSE 0 looks south by WINDOW 0, at HOUSE 1, which is higher; the plate turns 2 PARTS a YEAR up to 12.
        type(town, "house 40 4; window 0 4 1; house 31 9; window 1 4 0; rate 2; bar 12");
        tell("texts", town.town());
        tell("ANGLE in YEAR 3", town.angle(3));
        tell("STOP", town.stop());

        tell("noon in WINDOW 0 in YEAR 3", town.lit(0, 6, 3));
        tell("noon in WINDOW 0 in YEAR 4", town.lit(0, 6, 4));
        tell("ROPES of YEAR 0 for noon in YEAR 1", town.push(0, 0, 1));
        tell("broken in YEAR", town.broken(town.promise(0, 0, 9)));

        type(town, "pay 3 * light if not frost; less 2 if windy");
        int lease = town.lease();
        tell("rent of HOUSE 0 in YEAR 99", town.rent(lease, 0, 99));
        tell("due of YEARS 6 to 9", town.due(town.let(lease, 0, 6, 9)));

        int drain = town.drain(40, 41);
        tell("YEARS in which it does not run", town.uphill(drain, false));
        type(town, "go 2 north; go 1 east");
        tell("CELL", town.walk(40, 0));

        tell("PAPERS", town.paper(0, 6, true));
        tell("YEARS that fit", town.years(PlateTown.NONE));
        tell("the first of them", town.years(0));

        town.image();
        tell("HEIGHT then", town.build(0, 3));
        tell("undone: HOUSE", town.undo());
        tell("back", town.back());

        try {
            type(town, "rate 21");
            town.town();
        } catch (IllegalArgumentException e) {
            tell("the first wrong byte", town.fault());
        }
    }

    /** Puts a text of 400 bytes at most on the TAPE, which must be empty. */
    private static void type(PlateTown town, String text) {
        for (int i = 0; i < text.length(); i += 20) {
            town.feed(four(text, i), four(text, i + 4), four(text, i + 8), four(text, i + 12), four(text, i + 16));
        }
        town.end(text.length());
    }

    private static int four(String text, int from) {
        int number = 0;
        for (int i = from; i < from + 4; i++) {
            number = number << 8 | (i < text.length() ? text.charAt(i) : 0);
        }
        return number;
    }

    private static void tell(String what, Object answer) {
        System.out.println(what + ": " + answer);
    }
}
