/** The edges that the Terms and promises 7 to 10 name for ANGLE, TURN, LOAD, BAR, STOP and ROPES. */
public final class EdgeTurnTest {
    private static final String TEN_OF_30 = "house 0 30;house 1 30;house 2 30;house 3 30;house 4 30;house 5 30;"
            + "house 6 30;house 7 30;house 8 30;house 9 30";

    public static void main(String[] args) {
        look();
        angle();
        turn();
        load();
        bar();
        stop();
        rope();
        Due.close();
    }

    // ---- promise 7 ----

    private static void look() {
        PlateTown two = Due.town("house 80 30;house 0 1;window 0 0 0");
        Due.edge("look: IndexOutOfBoundsException: no such HOUSE", () -> {
            Due.bounds("look", 2, house -> two.look(house, 0));
            Due.noSuch("look of an empty plate", 0, house -> new PlateTown().look(house, 0));
        });
        Due.edge("look: NoSuchElementException: another what", () -> {
            for (int what : new int[] {-1, 4, 5, Integer.MIN_VALUE, Integer.MAX_VALUE}) {
                Due.another("look what " + what, () -> two.look(0, what));
            }
        });
        Due.edge("look: IndexOutOfBoundsException ahead of NoSuchElementException", () -> {
            Due.outside("house 2, what 4", () -> two.look(2, 4));
            Due.outside("house -1, what -1", () -> two.look(-1, -1));
        });
        Due.edge("look: what 0 to 3", () -> {
            Due.is("CELL", 80, two.look(0, 0));
            Due.is("HEIGHT", 30, two.look(0, 1));
            Due.is("WINDOWS", 1, two.look(0, 2));
            Due.is("no WINDOWS", 0, two.look(1, 2));
            Due.is("FAMILY", 1, two.look(1, 3));
        });
    }

    // ---- promise 8 ----

    private static void angle() {
        PlateTown x = new PlateTown();
        Due.edge("angle: IndexOutOfBoundsException: no such YEAR", () -> Due.bounds("angle", 100, x::angle));
        Due.edge("ANGLE in YEAR 0: START", () -> {
            Due.is("START 0", 0, Due.town("start 0;rate 20").angle(0));
            Due.is("START 95", 95, Due.town("start 95;rate 20").angle(0));
        });
        Due.edge("The next YEAR ANGLE is so much more, modulo 96", () -> {
            Due.is("95 and 1", 0, Due.town("start 95;rate 1").angle(1));
            Due.is("94 and 1", 95, Due.town("start 94;rate 1").angle(1));
            Due.is("95 and 20", 19, Due.town("start 95;rate 20").angle(1));
            Due.is("95 and 48", 47, wholeTurn(95, 20).angle(1));
            Due.is("48 and 48", 0, wholeTurn(48, 20).angle(1));
        });
        Due.edge("TURN of a YEAR is of WIND and ROPES of that YEAR alone", () -> {
            PlateTown y = Due.town("rate 0;wind 3 3 4");
            y.rope(7, 5);
            int[] angles = {0, 0, 0, 0, 4, 4, 4, 4, 9, 9};
            for (int year = 0; year < angles.length; year++) {
                Due.is("angle " + year, angles[year], y.angle(year));
            }
        });
    }

    /** TURN of YEAR 0 is 40 and ROPES. */
    private static PlateTown wholeTurn(int start, int ropes) {
        PlateTown x = Due.town("rate 20;wind 0 0 20;start " + start);
        x.rope(0, ropes);
        return x;
    }

    private static void turn() {
        Due.edge("TURN: 0 to 48: cut above", () -> {
            Due.is("47", 47, wholeTurn(0, 7).angle(1));
            Due.is("48", 48, wholeTurn(0, 8).angle(1));
            Due.is("49", 48, wholeTurn(0, 9).angle(1));
            Due.is("60", 48, wholeTurn(0, 20).angle(1));
        });
        Due.edge("TURN: 0 to 48: cut below", () -> {
            Due.is("1", 1, Due.town("rate 5;calm 0 0 4").angle(1));
            Due.is("0", 0, Due.town("rate 5;calm 0 0 5").angle(1));
            Due.is("-1", 0, Due.town("rate 5;calm 0 0 6").angle(1));
            Due.is("-20", 0, Due.town("rate 0;calm 0 0 20").angle(1));
            Due.is("-7 by LOAD", 0, Due.town("rate 0;" + TEN_OF_30).angle(1));
            Due.is("-20 leaves nothing to the next YEAR", 5, Due.town("rate 0;calm 0 0 20;wind 1 1 5").angle(2));
        });
        Due.edge("TURN: cut but once, behind all of it", () -> {
            PlateTown x = Due.town("rate 20;wind 0 0 20;" + TEN_OF_30);
            x.rope(0, 20);
            Due.is("60 less 7", 48, x.angle(1));
            x.rope(0, 14);
            Due.is("54 less 7", 47, x.angle(1));
            PlateTown y = Due.town("rate 0;calm 0 0 20");
            y.rope(0, 20);
            Due.is("20 less 20", 0, y.angle(1));
            Due.tell(y, "calm 0 0 19");
            Due.is("20 less 19", 1, y.angle(1));
        });
    }

    private static void load() {
        Due.edge("LOAD: by 40, rounded down", () -> {
            PlateTown x = Due.town("rate 10;house 0 30;house 1 9");
            Due.is("39", 0, x.count(9));
            Due.is("39: TURN", 10, x.angle(1));
            Due.is("40 high", 10, x.build(1, 1));
            Due.is("40", 1, x.count(9));
            Due.is("40: TURN", 9, x.angle(1));
            Due.tell(x, "house 2 30;house 3 9");
            Due.is("79", 1, x.count(9));
            x.build(3, 1);
            Due.is("80", 2, x.count(9));
            Due.is("80: TURN", 8, x.angle(1));
            x.undo();
            Due.is("79 again: TURN", 9, x.angle(1));
        });
        Due.edge("LOAD: of ten HOUSES of 30", () -> {
            PlateTown x = Due.town("rate 9;" + TEN_OF_30);
            Due.is("300", 7, x.count(9));
            Due.is("TURN", 2, x.angle(1));
        });
        Due.edge("LOAD: of no HOUSE", () -> Due.is("0", 0, new PlateTown().count(9)));
    }

    private static void bar() {
        Due.edge("BAR: no farther ahead than TURN", () -> {
            Due.is("less far", 9, Due.town("rate 10;bar 9").angle(1));
            Due.is("just so far", 10, Due.town("rate 10;bar 10").angle(1));
            Due.is("farther", 10, Due.town("rate 10;bar 11").angle(1));
            Due.is("reached a YEAR later", 11, Due.town("rate 10;bar 11").angle(2));
        });
        Due.edge("BAR: 0: it stands there", () -> {
            PlateTown x = Due.town("rate 20;wind 0 99 20;start 50;bar 50");
            Due.is("at START", 50, x.angle(0));
            Due.is("a YEAR later", 50, x.angle(1));
            Due.is("at last", 50, x.angle(99));
            Due.is("BAR 0 and START 0", 0, Due.town("bar 0").angle(99));
        });
        Due.edge("BAR: 95 ahead is behind", () -> {
            PlateTown x = Due.town("rate 20;start 51;bar 50");
            Due.is("goes on", 71, x.angle(1));
            Due.is("around", 50, x.angle(5));
            PlateTown y = wholeTurn(51, 8);
            Due.tell(y, "bar 50");
            Due.is("with TURN 48", 3, y.angle(1));
        });
        Due.edge("BAR: ahead, modulo 96", () -> {
            Due.is("beyond 95", 2, Due.town("rate 20;start 90;bar 2").angle(1));
            Due.is("just so far", 2, Due.town("rate 8;start 90;bar 2").angle(1));
            Due.is("not so far", 1, Due.town("rate 7;start 90;bar 2").angle(1));
            Due.is("BAR 0", 0, Due.town("rate 20;start 90;bar 0").angle(1));
            Due.is("BAR 95", 95, Due.town("rate 20;start 90;bar 95").angle(99));
            Due.is("BAR 95 behind 0", 3, Due.town("start 0;bar 95").angle(1));
        });
        Due.edge("BAR: with TURN 0", () -> {
            Due.is("one ahead", 4, Due.town("rate 0;start 4;bar 5").angle(99));
            Due.is("there", 5, Due.town("rate 0;start 5;bar 5").angle(99));
        });
        Due.edge("BAR: the latest one alone", () -> {
            PlateTown x = Due.town("rate 10;bar 15");
            Due.is("15", 15, x.angle(99));
            Due.tell(x, "bar 25");
            Due.is("25", 25, x.angle(99));
        });
        Due.edge("BAR: no more TURN than 48 towards it", () -> {
            PlateTown x = wholeTurn(0, 20);
            Due.tell(x, "bar 48");
            Due.is("48 ahead", 48, x.angle(99));
            Due.tell(x, "bar 49");
            Due.is("49 ahead", 48, x.angle(1));
            Due.is("then one", 49, x.angle(2));
        });
    }

    // ---- promise 9 ----

    private static void stop() {
        Due.edge("STOP: YEAR 0, if it never turns", () -> Due.is("stop", 0, Due.town("rate 0").stop()));
        Due.edge("STOP: YEAR 99, if it turns to the end", () -> {
            Due.is("always", 99, new PlateTown().stop());
            PlateTown x = Due.town("rate 0");
            x.rope(98, 1);
            Due.is("in YEAR 98 alone", 99, x.stop());
        });
        Due.edge("STOP: TURN of YEAR 99 turns nothing", () -> {
            PlateTown x = Due.town("rate 0;wind 99 99 20");
            x.rope(99, 20);
            Due.is("stop", 0, x.stop());
            x.rope(0, 1);
            Due.is("and of YEAR 0 it does", 1, x.stop());
        });
        Due.edge("STOP: from which on, all between, too", () -> {
            PlateTown x = Due.town("rate 0;wind 4 4 5;wind 9 9 5");
            Due.is("behind a rest", 10, x.stop());
            PlateTown around = Due.town("rate 0;wind 2 5 20");
            for (int year = 2; year <= 5; year++) {
                around.rope(year, 4);
            }
            Due.is("ANGLE as at first", 0, around.angle(6));
            Due.is("stop all the same", 6, around.stop());
        });
        Due.edge("STOP: at the BAR", () -> {
            Due.is("YEAR 3", 3, Due.town("bar 9").stop());
            Due.is("YEAR 0", 0, Due.town("bar 0").stop());
        });
    }

    // ---- promise 10 ----

    private static void rope() {
        Due.edge("rope: IndexOutOfBoundsException: no such YEAR", () -> {
            PlateTown x = new PlateTown();
            Due.bounds("rope", 100, year -> x.rope(year, 1));
        });
        Due.edge("rope: IllegalArgumentException: not 0 to 20", () -> {
            PlateTown x = new PlateTown();
            for (int n : new int[] {-1, 21, 48, Integer.MIN_VALUE, Integer.MAX_VALUE}) {
                Due.illegal("rope " + n, () -> x.rope(0, n));
            }
            Due.is("20", 0, x.rope(0, 20));
            Due.is("0", 20, x.rope(0, 0));
            Due.is("0 it is", 0, x.rope(0, 5));
        });
        Due.edge("rope: IndexOutOfBoundsException ahead of IllegalArgumentException", () -> {
            PlateTown x = new PlateTown();
            Due.outside("year 100, 21", () -> x.rope(100, 21));
            Due.outside("year -1, -1", () -> x.rope(-1, -1));
        });
        Due.edge("rope: what they were, and from now on others", () -> {
            PlateTown x = Due.town("rate 0");
            Due.is("at first", 0, x.rope(5, 7));
            Due.is("angle 6", 7, x.angle(6));
            Due.is("seven", 7, x.rope(5, 3));
            Due.is("three, not ten", 3, x.angle(6));
            Due.is("not of the next YEAR", 0, x.rope(6, 0));
            Due.is("not of the one ahead", 0, x.rope(4, 0));
        });
        Due.edge("rope: in the first and the last YEAR", () -> {
            PlateTown x = Due.town("rate 0");
            x.rope(0, 2);
            x.rope(98, 3);
            Due.is("angle 1", 2, x.angle(1));
            Due.is("angle 98", 2, x.angle(98));
            Due.is("angle 99", 5, x.angle(99));
            Due.is("of YEAR 99", 0, x.rope(99, 4));
            Due.is("of YEAR 99 then", 4, x.rope(99, 0));
        });
    }
}
