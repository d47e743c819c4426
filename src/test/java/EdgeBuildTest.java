/** The edges that the Terms and promises 28 to 32 name for BUILDING, UNDONE, LOST, TAKES and GABLE. */
public final class EdgeBuildTest {
    private static final int[] NO_MORE = {0, -1, 30, 31, -29, Integer.MIN_VALUE, Integer.MAX_VALUE};

    public static void main(String[] args) {
        build();
        undo();
        lost();
        takes();
        gable();
        Due.close();
    }

    // ---- promise 28 ----

    private static void build() {
        Due.edge("build: IndexOutOfBoundsException: no such HOUSE", () -> {
            PlateTown x = Due.town("house 40 1;house 0 1");
            Due.bounds("build", 2, house -> x.build(house, 1));
            Due.noSuch("build on an empty plate", 0, house -> new PlateTown().build(house, 1));
        });
        Due.edge("build: IllegalArgumentException: so much is not 1 to 29", () -> {
            PlateTown x = Due.town("house 40 1;house 0 1");
            for (int more : NO_MORE) {
                Due.illegal("build " + more, () -> x.build(0, more));
            }
            Due.is("build 1", 2, x.build(0, 1));
            Due.is("build 29", 30, x.build(1, 29));
        });
        Due.edge("build: IllegalArgumentException: it would be above 30", () -> {
            PlateTown x = Due.town("house 40 10;house 0 30;house 1 29");
            Due.illegal("10 and 21", () -> x.build(0, 21));
            Due.is("10 and 20", 30, x.build(0, 20));
            Due.illegal("30 and 1", () -> x.build(0, 1));
            Due.illegal("30 of the text and 1", () -> x.build(1, 1));
            Due.illegal("30 and 29", () -> x.build(1, 29));
            Due.illegal("29 and 2", () -> x.build(2, 2));
            Due.is("29 and 1", 30, x.build(2, 1));
        });
        Due.edge("build: IndexOutOfBoundsException ahead of IllegalArgumentException", () -> {
            PlateTown x = Due.town("house 40 1");
            Due.outside("house 1, 0", () -> x.build(1, 0));
            Due.outside("house -1, 30", () -> x.build(-1, 30));
        });
        Due.edge("build: refused, it cannot be undone", () -> {
            PlateTown x = Due.town("house 40 20");
            Due.keeps(x, "build", () -> {
                Due.illegal("build 0", () -> x.build(0, 0));
                Due.illegal("build 11", () -> x.build(0, 11));
                Due.outside("house 1", () -> x.build(1, 1));
            });
            Due.is("undo", -1, x.undo());
        });
    }

    // ---- promise 29 ----

    private static void undo() {
        Due.edge("undo: NONE, and nothing happens, without one", () -> {
            PlateTown x = Due.town("house 40 7");
            Due.keeps(x, "undo", () -> Due.is("undo", -1, x.undo()));
            x.build(0, 1);
            Due.is("undo of one", 0, x.undo());
            Due.keeps(x, "undo", () -> Due.is("undo behind it", -1, x.undo()));
            Due.is("undo on an empty plate", -1, new PlateTown().undo());
        });
        Due.edge("UNDONE: the latest building that was not yet undone", () -> {
            PlateTown x = Due.town("house 40 1;house 0 1;house 80 1");
            x.build(0, 2);
            x.build(1, 3);
            Due.is("the latest", 1, x.undo());
            x.build(2, 4);
            Due.is("the new one", 2, x.undo());
            Due.is("the first", 0, x.undo());
            Due.is("none", -1, x.undo());
            Due.is("HEIGHTS", 111, 100 * x.look(0, 1) + 10 * x.look(1, 1) + x.look(2, 1));
        });
        Due.edge("UNDONE: of 20 at most: 20 are remembered", () -> forget(20, false));
        Due.edge("UNDONE: of 20 at most: of 21 the first is forgotten", () -> forget(21, true));
        Due.edge("UNDONE: of 20 at most: of 41 the first 21 are forgotten", () -> {
            PlateTown x = Due.town("house 40 1;house 0 1");
            for (int i = 0; i < 41; i++) {
                x.build(i < 21 ? 0 : 1, 1);
            }
            Due.is("remembered", 20, x.count(8));
            for (int i = 0; i < 20; i++) {
                Due.is("undo " + i, 1, x.undo());
            }
            Due.is("none", -1, x.undo());
            Due.is("HEIGHT", 22, x.look(0, 1));
        });
        Due.edge("UNDONE: room comes back by undo", () -> {
            PlateTown x = Due.town("house 40 1;house 0 1;house 80 1");
            x.build(0, 1);
            for (int i = 0; i < 19; i++) {
                x.build(1, 1);
            }
            x.undo();
            x.build(2, 1);
            Due.is("remembered", 20, x.count(8));
            Due.is("undo", 2, x.undo());
            for (int i = 0; i < 18; i++) {
                Due.is("undo " + i, 1, x.undo());
            }
            Due.is("the first is there", 0, x.undo());
        });
    }

    /** The first building is by 5 on HOUSE 0, the others are by 1 on HOUSE 1. */
    private static void forget(int buildings, boolean isForgotten) {
        PlateTown x = Due.town("house 40 1;house 0 1");
        x.build(0, 5);
        for (int i = 1; i < buildings; i++) {
            x.build(1, 1);
        }
        Due.is("remembered", 20, x.count(8));
        for (int i = 1; i < buildings; i++) {
            Due.is("undo " + i, 1, x.undo());
        }
        Due.is("undo of the first", isForgotten ? -1 : 0, x.undo());
        Due.is("HEIGHT of the first", isForgotten ? 6 : 1, x.look(0, 1));
        Due.is("HEIGHT of the others", 1, x.look(1, 1));
        Due.is("none is left", -1, x.undo());
    }

    // ---- promise 30 ----

    /** South of the WINDOWS stands a HOUSE of 7, which shades UP 0 at noon from 8 on; HOUSE 2 is full. */
    private static PlateTown street() {
        return Due.town("rate 0;house 40 1;house 31 6;house 80 30;window 0 4 0;window 0 4 1");
    }

    private static void lost() {
        PlateTown x = street();
        Due.edge("lost: IndexOutOfBoundsException: no such HOUSE", () -> {
            Due.is("lost by HOUSE 0", 0, x.lost(0, 1, 0, 0, 0));
            Due.noSuch("lost", 3, house -> x.lost(house, 1, 0, 0, 0));
        });
        Due.edge("lost: IndexOutOfBoundsException: no such WINDOW", () ->
                Due.bounds("lost of WINDOW", 2, window -> x.lost(1, 1, window, 0, 0)));
        Due.edge("lost: YEARS from .. to", () -> Due.span("lost", (from, to) -> x.lost(1, 1, 0, from, to)));
        Due.edge("lost: IllegalArgumentException: as of build(): not 1 to 29", () -> {
            for (int more : NO_MORE) {
                Due.illegal("lost by " + more, () -> x.lost(0, more, 0, 0, 0));
            }
            Due.is("by 29", 0, x.lost(0, 29, 0, 0, 0));
        });
        Due.edge("lost: IllegalArgumentException: as of build(): above 30", () -> {
            Due.illegal("6 and 25", () -> x.lost(1, 25, 0, 0, 0));
            Due.is("6 and 24", 9 - 6, x.lost(1, 24, 0, 0, 0));
            Due.illegal("30 and 1", () -> x.lost(2, 1, 0, 0, 0));
        });
        Due.edge("lost: IndexOutOfBoundsException ahead of IllegalArgumentException", () -> {
            Due.outside("no HOUSE", () -> x.lost(3, 0, 0, 1, 0));
            Due.outside("no WINDOW", () -> x.lost(1, 0, 2, 1, 0));
            Due.outside("no first YEAR", () -> x.lost(1, 0, 0, 100, 0));
            Due.outside("no second YEAR", () -> x.lost(1, 0, 0, 0, -1));
            Due.outside("no second YEAR above", () -> x.lost(1, 0, 0, 0, 100));
        });
        Due.edge("LOST: none, one HOUR, all that can be shaded", () -> {
            // in the sun's DIRECTION 4 are HOURS 5 to 7, HIGH 6, 7, 6
            Due.is("7 above HIGH 6 twice", 2, x.lost(1, 1, 0, 0, 0));
            Due.is("7 less 1 is not above", 0, x.lost(1, 1, 1, 0, 0));
            Due.is("8 above HIGH 7, too", 3, x.lost(1, 2, 0, 0, 0));
            Due.is("of 100 YEARS", 300, x.lost(1, 2, 0, 0, 99));
            Due.is("of 4 YEARS", 12, x.lost(1, 2, 0, 96, 99));
        });
        Due.edge("LOST: ANGLES as they are", () -> {
            PlateTown y = Due.town("rate 1;start 0;house 40 9;house 80 30;window 0 4 0");
            Due.is("LOAD is 1 by the next building", 0, y.count(9));
            Due.is("the window loses nothing", 0, y.lost(0, 1, 0, 0, 99));
            y.build(0, 1);
            Due.is("LOAD", 1, y.count(9));
            Due.is("ANGLE then", 0, y.angle(99));
        });
        Due.edge("LOST: nothing is built by asking", () -> {
            PlateTown y = street();
            Due.keeps(y, "lost", () -> y.lost(1, 9, 0, 0, 99));
        });
    }

    // ---- promise 31 ----

    private static void takes() {
        PlateTown x = street();
        Due.edge("takes: IndexOutOfBoundsException: no such HOUSE", () -> {
            Due.is("takes by HOUSE 0", 0, x.takes(0, 1, 0, 0));
            Due.noSuch("takes", 3, house -> x.takes(house, 1, 0, 0));
        });
        Due.edge("takes: YEARS from .. to", () -> Due.span("takes", (from, to) -> x.takes(1, 1, from, to)));
        Due.edge("takes: IllegalArgumentException: not 1 to 29", () -> {
            for (int more : NO_MORE) {
                Due.illegal("takes by " + more, () -> x.takes(0, more, 0, 0));
            }
            Due.is("by 29", 0, x.takes(0, 29, 0, 0));
        });
        Due.edge("takes: IllegalArgumentException: above 30", () -> {
            Due.illegal("6 and 25", () -> x.takes(1, 25, 0, 0));
            Due.is("6 and 24", 0b11, x.takes(1, 24, 0, 0));
            Due.illegal("30 and 1", () -> x.takes(2, 1, 0, 0));
        });
        Due.edge("takes: IndexOutOfBoundsException ahead of IllegalArgumentException", () -> {
            Due.outside("no HOUSE", () -> x.takes(3, 0, 1, 0));
            Due.outside("no first YEAR", () -> x.takes(1, 0, 100, 0));
            Due.outside("no second YEAR", () -> x.takes(1, 0, 0, -1));
            Due.outside("no second YEAR above", () -> x.takes(1, 0, 0, 100));
        });
        Due.edge("TAKES: WINDOWS that would lose some, as bits, of none, one and 20", () -> {
            Due.is("the lower one", 0b01, x.takes(1, 1, 0, 0));
            Due.is("both", 0b11, x.takes(1, 2, 0, 0));
            Due.is("without WINDOWS", 0, Due.town("house 40 1").takes(0, 29, 0, 99));
            PlateTown y = Due.town("rate 0;house 40 1;house 31 7" + ";window 0 4 0".repeat(9),
                    "window 0 4 0" + ";window 0 4 0".repeat(10));
            Due.is("all 20", 0xFFFFF, y.takes(1, 1, 5, 5));
        });
        Due.edge("TAKES: what is in the shade loses nothing", () -> {
            PlateTown y = Due.town("rate 0;house 40 1;house 31 8;window 0 4 0");
            Due.is("takes", 0, y.takes(1, 22, 0, 99));
        });
        Due.edge("TAKES: some in one of the YEARS is enough, both ends, too", () -> {
            // ANGLE 48 in YEAR 6 alone: the sun is in DIRECTION 0
            PlateTown y = Due.town("rate 8;calm 0 99 8;wind 5 6 20;house 40 1;house 49 7;window 0 0 0");
            y.rope(5, 20);
            y.rope(6, 20);
            Due.is("0 to 5", 0, y.takes(1, 1, 0, 5));
            Due.is("0 to 6", 1, y.takes(1, 1, 0, 6));
            Due.is("6 to 99", 1, y.takes(1, 1, 6, 99));
            Due.is("7 to 99", 0, y.takes(1, 1, 7, 99));
        });
        Due.edge("TAKES: nothing is built by asking", () -> {
            PlateTown y = street();
            Due.keeps(y, "takes", () -> y.takes(1, 9, 0, 99));
        });
    }

    // ---- promise 32 ----

    private static void gable() {
        PlateTown x = street();
        Due.edge("gable: IndexOutOfBoundsException: no such HOUSE", () ->
                Due.bounds("gable", 3, house -> x.gable(house, 0, 0, 0)));
        Due.edge("gable: IndexOutOfBoundsException: no such WINDOW", () ->
                Due.bounds("gable of WINDOW", 2, window -> x.gable(1, window, 0, 0)));
        Due.edge("gable: YEARS from .. to", () -> Due.span("gable", (from, to) -> x.gable(1, 0, from, to)));
        Due.edge("gable: IndexOutOfBoundsException ahead of IllegalArgumentException", () -> {
            Due.outside("no HOUSE", () -> x.gable(3, 0, 1, 0));
            Due.outside("no WINDOW", () -> x.gable(1, 2, 1, 0));
            Due.outside("no first YEAR", () -> x.gable(1, 0, 100, 0));
            Due.outside("no second YEAR", () -> x.gable(1, 0, 0, -1));
        });
        Due.edge("GABLE: 0, if HEIGHT is 30", () -> Due.is("gable", 0, x.gable(2, 0, 0, 99)));
        Due.edge("GABLE: HEIGHT 30 at most", () -> {
            PlateTown y = Due.town("rate 0;house 40 1;window 0 4 0;house 80 29;house 1 15");
            Due.is("29 of 1", 29, y.gable(0, 0, 0, 99));
            Due.is("1 of 29", 1, y.gable(1, 0, 0, 99));
            Due.is("15 of 15", 15, y.gable(2, 0, 0, 99));
        });
        Due.edge("GABLE: 0, if one more takes some", () -> Due.is("gable", 0, x.gable(1, 0, 0, 0)));
        Due.edge("GABLE: the greatest by which it loses nothing, each so much", EdgeBuildTest::gableByUp);
        Due.edge("GABLE: all YEARS from .. to", () -> {
            PlateTown y = Due.town("rate 0;house 40 1;house 31 1;window 0 4 3;wind 5 5 12;wind 6 6 12");
            // the lowest sun in DIRECTION 4 is HIGH 6 by ANGLE 0, 3 by ANGLE 12, 1 by ANGLE 24
            Due.is("HIGH 6", 3 + 6 - 1, y.gable(1, 0, 0, 5));
            Due.is("HIGH 3", 3 + 3 - 1, y.gable(1, 0, 6, 6));
            Due.is("HIGH 1", 3 + 1 - 1, y.gable(1, 0, 7, 7));
            Due.is("HIGH 3 in the second YEAR", 3 + 3 - 1, y.gable(1, 0, 5, 6));
            Due.is("HIGH 1 in the first YEAR", 3 + 1 - 1, y.gable(1, 0, 7, 99));
            Due.is("all", 3 + 1 - 1, y.gable(1, 0, 0, 99));
        });
        Due.edge("GABLE: nothing is built by asking", () -> {
            PlateTown y = street();
            Due.keeps(y, "gable", () -> y.gable(1, 0, 0, 99));
        });
    }

    /** HIGH is 6 in HOURS 5 and 7: a HOUSE beside the WINDOW takes none up to 6 and UP. */
    private static void gableByUp() {
        for (int up = 0; up <= 29; up++) {
            PlateTown x = Due.town("rate 0;house 40 1;house 31 1;window 0 4 " + up);
            Due.is("gable for UP " + up, Math.min(29, 5 + up), x.gable(1, 0, 0, 9));
        }
    }
}
