import java.math.BigInteger;

/** The edges that the Terms and promises 38 to 41 name for PAPERS, PUSH and WIND by DRAWS. */
public final class EdgePaperTest {
    public static void main(String[] args) {
        paper();
        years();
        push();
        pushBounds();
        blow();
        Due.close();
    }

    /** ANGLE 0 to YEAR 49, then 48: the WINDOW is LIT at noon in YEARS 0 to 49. */
    private static PlateTown turned() {
        PlateTown x = Due.town("rate 8;calm 0 99 8;wind 49 49 20;house 40 1;window 0 4 0;window 0 0 0");
        x.rope(49, 20);
        return x;
    }

    // ---- promise 38 ----

    private static void paper() {
        Due.edge("paper: IndexOutOfBoundsException: no such WINDOW", () -> {
            PlateTown x = turned();
            Due.bounds("paper", 2, window -> x.paper(window, 6, true));
            Due.noSuch("paper on an empty plate", 0, window -> new PlateTown().paper(window, 6, true));
        });
        Due.edge("paper: IndexOutOfBoundsException: no such HOUR (0 to 12)", () -> {
            PlateTown x = turned();
            Due.bounds("paper in HOUR", 13, hour -> x.paper(0, hour, true));
        });
        Due.edge("PAPERS (at most 16): how many there are; UnsupportedOperationException: there are 16", () -> {
            PlateTown x = fullOfPapers();
            Due.is("count", 16, x.count(7));
            Due.keeps(x, "a 17th", () -> Due.full("a 17th paper", () -> x.paper(0, 6, false)));
            Due.is("the 17th tells nothing", 50, x.years(-1));
        });
        Due.edge("paper: IndexOutOfBoundsException ahead of UnsupportedOperationException", () -> {
            PlateTown x = fullOfPapers();
            Due.outside("no WINDOW", () -> x.paper(2, 0, true));
            Due.outside("WINDOW -1", () -> x.paper(-1, 0, true));
            Due.outside("no HOUR", () -> x.paper(0, 13, true));
            Due.outside("HOUR -1", () -> x.paper(0, -1, true));
        });
    }

    private static PlateTown fullOfPapers() {
        PlateTown x = turned();
        for (int i = 1; i <= 16; i++) {
            Due.is("paper " + i, i, x.paper(0, 6, true));
        }
        return x;
    }

    // ---- promise 39 ----

    private static void years() {
        Due.edge("years: IllegalArgumentException: k is below NONE", () -> {
            PlateTown x = turned();
            for (int k : new int[] {-2, -3, -100, Integer.MIN_VALUE}) {
                Due.illegal("years " + k, () -> x.years(k));
            }
            Due.is("NONE", 100, x.years(PlateTown.NONE));
        });
        Due.edge("years: without a PAPER all fit", () -> {
            PlateTown x = new PlateTown();
            Due.is("how many", 100, x.years(-1));
            Due.is("the first", 0, x.years(0));
            Due.is("the last", 99, x.years(99));
            Due.is("no more", -1, x.years(100));
        });
        Due.edge("years: the k-th (from 0 on; NONE without it)", () -> {
            PlateTown x = turned();
            x.paper(1, 6, true);
            Due.is("how many", 50, x.years(-1));
            Due.is("0", 50, x.years(0));
            Due.is("1", 51, x.years(1));
            Due.is("49", 99, x.years(49));
            Due.is("50", -1, x.years(50));
            Due.is("MAX", -1, x.years(Integer.MAX_VALUE));
        });
        Due.edge("years: none fits", () -> {
            PlateTown x = turned();
            x.paper(0, 6, true);
            x.paper(0, 6, false);
            Due.is("how many", 0, x.years(-1));
            Due.is("the first", -1, x.years(0));
        });
        Due.edge("years: that fit all, LIT or not", () -> {
            PlateTown x = turned();
            x.paper(0, 6, true);
            Due.is("LIT", 50, x.years(-1));
            x.paper(1, 6, false);
            Due.is("and not LIT", 50, x.years(-1));
            x.paper(0, 0, false);
            Due.is("nor in HOUR 0", 50, x.years(-1));
            x.paper(1, 12, true);
            Due.is("but in HOUR 12", 0, x.years(-1));
        });
        Due.edge("years: the last PAPER of 16 counts, too", () -> {
            PlateTown x = turned();
            for (int i = 0; i < 15; i++) {
                x.paper(0, 6, true);
            }
            x.paper(0, 6, false);
            Due.is("how many", 0, x.years(-1));
        });
    }

    // ---- promise 40 ----

    private static void pushBounds() {
        PlateTown x = turned();
        Due.edge("push: IndexOutOfBoundsException: no such WINDOW", () -> {
            Due.bounds("push", 2, window -> x.push(window, 0, 0));
            Due.noSuch("push on an empty plate", 0, window -> new PlateTown().push(window, 0, 0));
        });
        Due.edge("push: IndexOutOfBoundsException: no such YEAR", () ->
                Due.bounds("push in YEAR", 100, year -> x.push(0, year, 0)));
        Due.edge("push: IndexOutOfBoundsException: no such other YEAR", () ->
                Due.bounds("push to YEAR", 100, other -> x.push(0, 0, other)));
    }

    private static PlateTown facing(String lines, int direction) {
        return Due.town("rate 0;house 40 1;window 0 " + direction + " 0;" + lines);
    }

    private static void push() {
        Due.edge("PUSH: 0, if it is LIT as it is", () -> {
            Due.is("of any YEAR", 0, facing("start 0", 4).push(0, 0, 99));
            Due.is("of the YEAR itself", 0, facing("start 0", 4).push(0, 7, 7));
            Due.is("of an earlier YEAR", 0, facing("start 0", 4).push(0, 7, 6));
        });
        Due.edge("PUSH: the least: LIT to the south by ANGLES 79 to 18", () -> {
            Due.is("78", 1, facing("start 78", 4).push(0, 0, 1));
            Due.is("79", 0, facing("start 79", 4).push(0, 0, 1));
            Due.is("18", 0, facing("start 18", 4).push(0, 0, 1));
        });
        Due.edge("PUSH: 0 to 48, and none beyond", () -> {
            Due.is("32", 47, facing("start 32", 4).push(0, 0, 1));
            Due.is("31", 48, facing("start 31", 4).push(0, 0, 1));
            Due.is("30", -1, facing("start 30", 4).push(0, 0, 1));
            Due.is("19", -1, facing("start 19", 4).push(0, 0, 1));
        });
        Due.edge("PUSH: more than calm and LOAD", () -> {
            Due.is("43 and 5", 48, facing("calm 0 0 5", 7).push(0, 0, 1));
            Due.is("43 and 6", -1, facing("calm 0 0 6", 7).push(0, 0, 1));
            Due.is("43 and LOAD 1", 44, facing("house 0 30;house 1 9", 7).push(0, 0, 1));
        });
        Due.edge("PUSH: TURN is cut at 48", () -> {
            PlateTown x = facing("wind 0 0 20;start 31;rate 20;calm 1 99 20", 4);
            Due.is("40 and 8", 8, x.push(0, 0, 1));
            Due.tell(x, "start 30");
            Due.is("never 49", -1, x.push(0, 0, 1));
        });
        Due.edge("PUSH: ROPES are so much more, above 20, too", () -> {
            PlateTown x = facing("start 31", 4);
            x.rope(0, 20);
            Due.is("20 and 28", 28, x.push(0, 0, 1));
            Due.is("they stay 20", 20, x.rope(0, 20));
            Due.keeps(x, "push", () -> x.push(0, 0, 1));
        });
        Due.edge("PUSH: none: of the YEAR itself, an earlier one, YEAR 99", () -> {
            Due.is("the YEAR itself", -1, facing("start 48", 4).push(0, 5, 5));
            Due.is("an earlier one", -1, facing("start 48", 4).push(0, 5, 4));
            Due.is("YEAR 99", -1, facing("start 48", 4).push(0, 99, 99));
            Due.is("the next one", 31, facing("start 48", 4).push(0, 5, 6));
            Due.is("YEAR 98 to 99", 31, facing("start 48", 4).push(0, 98, 99));
        });
        Due.edge("PUSH: the BAR holds it", () -> {
            Due.is("behind it", -1, facing("start 48;bar 78", 4).push(0, 0, 1));
            Due.is("at it", 31, facing("start 48;bar 79", 4).push(0, 0, 1));
        });
        Due.edge("PUSH: in HOUR 6, and with shade", () -> {
            Due.is("HOUR 6 alone", 7, facing("start 0", 2).push(0, 0, 1));
            PlateTown x = facing("start 0;house 31 8", 4);
            Due.is("sun beside the HOUSE", 7, x.push(0, 0, 1));
        });
    }

    // ---- promise 41 ----

    private static void blow() {
        Due.edge("BLOWN: DRAWS as an int that goes round; bits 16 to 30 modulo 11, less 5", () -> {
            int[] seeds = {0, 1, -1, 42, 12345, -12345, 65536, 1 << 30, Integer.MIN_VALUE, Integer.MAX_VALUE};
            for (int seed : seeds) {
                draws(seed);
            }
        });
        Due.edge("BLOWN: less 5: -5 to 5", () -> {
            int[] often = new int[11];
            for (int seed = 0; seed < 4; seed++) {
                PlateTown x = Due.town("rate 5");
                x.blow(seed);
                for (int year = 0; year < 99; year++) {
                    int turn = Math.floorMod(x.angle(year + 1) - x.angle(year), 96);
                    Due.is("turn of " + year + " is 0 to 10: " + turn, true, turn <= 10);
                    often[Math.min(10, turn)]++;
                }
            }
            for (int wind = -5; wind <= 5; wind++) {
                Due.is("wind " + wind + " blows", true, often[wind + 5] > 0);
            }
        });
        Due.edge("BLOWN: instead of WIND of ahead, and ROPES stay", () -> {
            PlateTown x = Due.town("rate 5;wind 0 99 20");
            x.rope(0, 20);
            x.blow(0);
            Due.is("-5", 20, x.angle(1));
            Due.is("the same again", x.blow(0), x.blow(0));
            Due.is("and not added", 20, x.angle(1));
        });
        Due.edge("BLOWN: TURN is not below 0", () -> {
            PlateTown x = Due.town("rate 4");
            x.blow(0);
            Due.is("4 less 5", 0, x.angle(1));
        });
    }

    private static void draws(int seed) {
        PlateTown x = Due.town("rate 5");
        int together = x.blow(seed);
        BigInteger drawn = BigInteger.valueOf(seed);
        int angle = 0;
        int sum = 0;
        for (int year = 0; year < 100; year++) {
            Due.is("angle " + year + " of SEED " + seed, angle, x.angle(year));
            drawn = drawn.multiply(BigInteger.valueOf(1103515245)).add(BigInteger.valueOf(12345))
                    .mod(BigInteger.ONE.shiftLeft(32));
            int turn = drawn.mod(BigInteger.ONE.shiftLeft(31)).shiftRight(16).mod(BigInteger.valueOf(11)).intValue();
            angle = (angle + turn) % 96;
            sum += turn - 5;
        }
        Due.is("WIND of all YEARS of SEED " + seed, sum, together);
    }
}
