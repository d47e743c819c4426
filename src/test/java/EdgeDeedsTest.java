/** The edges that the Terms and promises 15 to 20 name for RENT, LETS, DUE, PROMISES, BROKEN and TWICE. */
public final class EdgeDeedsTest {
    public static void main(String[] args) {
        rent();
        lines();
        facts();
        let();
        due();
        promise();
        broken();
        twice();
        Due.close();
    }

    /** HOUSE 0 with a WINDOW to the south, HOUSE 1 without, by ANGLE 0. */
    private static PlateTown town() {
        return Due.town("rate 0;house 40 5;house 80 30;window 0 4 0");
    }

    private static int rentBy(String text) {
        PlateTown x = town();
        return x.rent(Due.lease(x, text), 0, 3);
    }

    // ---- promise 15 ----

    private static void rent() {
        PlateTown x = town();
        Due.lease(x, "pay 1");
        Due.lease(x, "pay 2");
        Due.edge("rent: IndexOutOfBoundsException: no such LEASE", () -> {
            Due.bounds("rent", 2, lease -> x.rent(lease, 0, 0));
            Due.noSuch("rent without a LEASE", 0, lease -> town().rent(lease, 0, 0));
        });
        Due.edge("rent: IndexOutOfBoundsException: no such HOUSE", () ->
                Due.bounds("rent of HOUSE", 2, house -> x.rent(0, house, 0)));
        Due.edge("rent: IndexOutOfBoundsException: no such YEAR", () ->
                Due.bounds("rent in YEAR", 100, year -> x.rent(0, 0, year)));
    }

    private static void lines() {
        Due.edge("RENT: 0, if some void LINE holds", () -> {
            Due.is("the first", 0, rentBy("void;pay 5"));
            Due.is("the last", 0, rentBy("pay 5;void"));
            Due.is("one of two", 0, rentBy("void if frost;pay 5;void if noon"));
            Due.is("one of two, the other way", 0, rentBy("void if noon;pay 5;void if frost"));
            Due.is("none holds", 5, rentBy("void if frost;pay 5;void if frost"));
        });
        Due.edge("RENT: void by that LEASE, HOUSE and YEAR alone", () -> {
            PlateTown x = town();
            Due.lease(x, "void if year<5 and height<6;pay 7");
            Due.lease(x, "pay 8");
            Due.is("void", 0, x.rent(0, 0, 4));
            Due.is("a YEAR later", 7, x.rent(0, 0, 5));
            Due.is("void again", 0, x.rent(0, 0, 4));
            Due.is("another HOUSE", 7, x.rent(0, 1, 4));
            Due.is("void once more", 0, x.rent(0, 0, 4));
            Due.is("another LEASE", 8, x.rent(1, 0, 4));
        });
        Due.edge("RENT: pay LINES that hold", () -> {
            Due.is("without if", 5, rentBy("pay 5"));
            Due.is("one of two", 5, rentBy("pay 5 if noon;pay 7 if frost"));
            Due.is("both", 12, rentBy("pay 5 if noon;pay 7 if windy"));
            Due.is("none", 0, rentBy("pay 5 if frost"));
        });
        Due.edge("RENT: less less LINES, that hold", () -> {
            Due.is("without if", 3, rentBy("pay 5;less 2"));
            Due.is("holds", 3, rentBy("pay 5;less 2 if noon"));
            Due.is("does not", 5, rentBy("pay 5;less 2 if frost"));
        });
        Due.edge("RENT: 0 at least", () -> {
            Due.is("1", 1, rentBy("pay 5;less 4"));
            Due.is("0", 0, rentBy("pay 5;less 5"));
            Due.is("-1", 0, rentBy("pay 5;less 6"));
            Due.is("of less alone", 0, rentBy("less 1"));
            Due.is("cut but once, behind all LINES", 1, rentBy("less 999;pay 500;pay 500"));
        });
        Due.edge("RENT: of no LINE", () -> Due.is("rent", 0, rentBy("")));
        Due.edge("RENT: of 12 LINES of 999 times 99", () -> {
            PlateTown x = town();
            Due.lease(x, "pay 999*year" + ";pay 999*year".repeat(11));
            Due.is("rent", 12 * 999 * 99, x.rent(0, 0, 99));
            Due.is("rent in YEAR 0", 0, x.rent(0, 0, 0));
        });
    }

    private static void facts() {
        Due.edge("turn: ANGLE, 0 to 95", () -> {
            PlateTown x = Due.town("rate 1;start 94;house 40 5");
            Due.lease(x, "pay 1*turn");
            int[] turn = {94, 95, 0, 1};
            for (int year = 0; year < turn.length; year++) {
                Due.is("rent in " + year, turn[year], x.rent(0, 0, year));
            }
        });
        Due.edge("level: LEVEL of its CELL and 8: 0 to 16", () -> {
            PlateTown x = Due.town("rate 0;sea 36;house 8 5;house 72 5;house 40 5");
            Due.lease(x, "pay 1*level");
            Due.is("the lowest", 0, x.rent(0, 0, 0));
            Due.is("the highest", 16, x.rent(0, 1, 0));
            Due.is("the middle", 8, x.rent(0, 2, 0));
        });
        Due.edge("height: its HEIGHT, 1 to 30, as built", () -> {
            PlateTown x = Due.town("rate 0;house 40 1");
            Due.lease(x, "pay 1*height");
            Due.is("1", 1, x.rent(0, 0, 0));
            x.build(0, 29);
            Due.is("30", 30, x.rent(0, 0, 0));
            x.undo();
            Due.is("1 again", 1, x.rent(0, 0, 0));
        });
        Due.edge("light: LIGHT of the HOUSE in that YEAR, none without a WINDOW", () -> {
            PlateTown x = town();
            Due.lease(x, "pay 1*light");
            Due.is("nine", 9, x.rent(0, 0, 99));
            Due.is("none", 0, x.rent(0, 1, 99));
            Due.tell(x, "window 0 4 0");
            Due.is("of two WINDOWS", 18, x.rent(0, 0, 0));
        });
        Due.edge("year: 0 to 99", () -> {
            PlateTown x = town();
            Due.lease(x, "pay 1*year");
            Due.is("0", 0, x.rent(0, 0, 0));
            Due.is("99", 99, x.rent(0, 0, 99));
        });
        Due.edge("noon, frost, windy: of the HOUSE in that YEAR", EdgeDeedsTest::sights);
    }

    /** South in YEAR 0, turned away in YEAR 1 (ANGLE 48), a HOUSE of 30 north of it. */
    private static void sights() {
        PlateTown x = Due.town("rate 8;calm 1 99 8;wind 0 0 20;house 40 5;house 41 30;window 0 4 0");
        x.rope(0, 20);
        Due.lease(x, "pay 1 if noon;pay 10 if frost;pay 100 if windy");
        Due.is("GUSTS 72 on DIRECTION 6", 101, x.rent(0, 0, 0));
        Due.is("GUSTS 72 on DIRECTION 2", 10, x.rent(0, 0, 1));
    }

    // ---- promise 16 ----

    private static PlateTown townOfLeases() {
        PlateTown x = town();
        Due.lease(x, "pay 5");
        Due.lease(x, "pay 1*year");
        return x;
    }

    private static void let() {
        Due.edge("let: IndexOutOfBoundsException: no such LEASE", () -> {
            PlateTown x = townOfLeases();
            Due.bounds("let", 2, lease -> x.let(lease, 0, 0, 0));
            Due.noSuch("let without a LEASE", 0, lease -> town().let(lease, 0, 0, 0));
        });
        Due.edge("let: IndexOutOfBoundsException: no such HOUSE", () -> {
            PlateTown x = townOfLeases();
            Due.bounds("let of HOUSE", 2, house -> x.let(0, house, 0, 0));
        });
        Due.edge("let: YEARS from .. to", () -> {
            PlateTown x = townOfLeases();
            Due.span("let", (from, to) -> x.let(0, 0, from, to));
        });
        Due.edge("LETS (at most 16): its number; UnsupportedOperationException: there are 16", () -> {
            PlateTown x = fullOfLets();
            Due.is("count", 16, x.count(4));
            Due.keeps(x, "a 17th let", () -> Due.full("a 17th let", () -> x.let(0, 0, 0, 0)));
            Due.outside("due of a 17th", () -> x.due(16));
        });
        Due.edge("let: of several exceptions the one told first", () -> {
            PlateTown x = fullOfLets();
            Due.outside("no LEASE, 1 to 0, full", () -> x.let(2, 0, 1, 0));
            Due.outside("no HOUSE, 1 to 0, full", () -> x.let(0, 2, 1, 0));
            Due.outside("no YEAR, below, full", () -> x.let(0, 0, 0, -1));
            Due.outside("no YEAR, below the other, full", () -> x.let(0, 0, 100, 0));
            Due.outside("no YEAR, full", () -> x.let(0, 0, 0, 100));
            Due.illegal("1 to 0, full", () -> x.let(0, 0, 1, 0));
        });
    }

    private static PlateTown fullOfLets() {
        PlateTown x = townOfLeases();
        for (int i = 0; i < 16; i++) {
            Due.is("let " + i, i, x.let(0, 0, 0, i));
        }
        return x;
    }

    // ---- promise 17 ----

    private static void due() {
        Due.edge("due: IndexOutOfBoundsException: no such LET", () -> {
            PlateTown x = fullOfLets();
            Due.bounds("due", 16, x::due);
            Due.noSuch("due without a LET", 0, let -> townOfLeases().due(let));
        });
        Due.edge("DUE: RENT of all these YEARS, both ends, too", () -> {
            PlateTown x = townOfLeases();
            x.let(1, 0, 3, 5);
            x.let(1, 0, 7, 7);
            x.let(1, 0, 0, 99);
            x.let(1, 0, 99, 99);
            x.let(1, 0, 0, 0);
            Due.is("3 to 5", 12, x.due(0));
            Due.is("7 alone", 7, x.due(1));
            Due.is("all", 4950, x.due(2));
            Due.is("the last", 99, x.due(3));
            Due.is("the first", 0, x.due(4));
        });
        Due.edge("DUE: 0 at least in each YEAR", () -> {
            PlateTown x = town();
            Due.lease(x, "pay 1*year;less 50");
            x.let(0, 0, 0, 99);
            Due.is("51 to 99", 49 * 50 / 2, x.due(0));
        });
        Due.edge("DUE: of its own LEASE and HOUSE", () -> {
            PlateTown x = town();
            Due.lease(x, "pay 1*height");
            Due.lease(x, "pay 2*height");
            x.let(0, 1, 0, 0);
            x.let(1, 0, 0, 0);
            Due.is("of HOUSE 1", 30, x.due(0));
            Due.is("by LEASE 1", 10, x.due(1));
        });
        Due.edge("DUE: the most of all", () -> {
            PlateTown x = Due.town("rate 0;house 40 1" + ";window 0 4 0".repeat(10),
                    "window 0 4 0" + ";window 0 4 0".repeat(9));
            Due.lease(x, "pay 999*light" + ";pay 999*light".repeat(11));
            x.let(0, 0, 0, 99);
            Due.is("due", 12 * 999 * 180 * 100, x.due(0));
        });
    }

    // ---- promise 18 ----

    private static void promise() {
        Due.edge("promise: IndexOutOfBoundsException: no such WINDOW", () -> {
            PlateTown x = Due.town("house 40 5;window 0 4 0;window 0 0 0");
            Due.bounds("promise", 2, window -> x.promise(window, 0, 0));
            Due.noSuch("promise without a WINDOW", 0, window -> new PlateTown().promise(window, 0, 0));
        });
        Due.edge("promise: YEARS from .. to", () -> {
            PlateTown x = town();
            Due.span("promise", (from, to) -> x.promise(0, from, to));
        });
        Due.edge("PROMISES (at most 16): its number; UnsupportedOperationException: there are 16", () -> {
            PlateTown x = fullOfPromises();
            Due.is("count", 16, x.count(5));
            Due.keeps(x, "a 17th", () -> Due.full("a 17th promise", () -> x.promise(0, 0, 0)));
            Due.outside("a 17th broken", () -> x.broken(16));
        });
        Due.edge("promise: of several exceptions the one told first", () -> {
            PlateTown x = fullOfPromises();
            Due.outside("no WINDOW, 1 to 0, full", () -> x.promise(1, 1, 0));
            Due.outside("no YEAR, below, full", () -> x.promise(0, 0, -1));
            Due.outside("no YEAR, below the other, full", () -> x.promise(0, 100, 0));
            Due.outside("no YEAR, full", () -> x.promise(0, 0, 100));
            Due.illegal("1 to 0, full", () -> x.promise(0, 1, 0));
        });
    }

    private static int brokenAtOnce(String text) {
        PlateTown x = Due.town(text);
        return x.broken(x.promise(0, 0, 0));
    }

    private static PlateTown fullOfPromises() {
        PlateTown x = town();
        for (int i = 0; i < 16; i++) {
            Due.is("promise " + i, i, x.promise(0, i, i));
        }
        return x;
    }

    // ---- promise 19 ----

    private static void broken() {
        Due.edge("broken: IndexOutOfBoundsException: no such PROMISE", () -> {
            PlateTown x = fullOfPromises();
            Due.bounds("broken", 16, x::broken);
            Due.noSuch("broken without a PROMISE", 0, promise -> town().broken(promise));
        });
        Due.edge("BROKEN: in the first YEAR, of those from FROM to TO alone; none", EdgeDeedsTest::brokenYears);
        Due.edge("BROKEN: in HOUR 6", () -> {
            PlateTown x = Due.town("rate 0;house 40 5;window 0 2 0;window 0 3 0");
            x.promise(0, 0, 0);
            x.promise(1, 0, 0);
            Due.is("LIT in other HOURS", 0, x.broken(0));
            Due.is("LIT in HOUR 6", -1, x.broken(1));
        });
        Due.edge("BROKEN: in HOUR 6, not in those beside it", () -> {
            Due.is("LIT in HOUR 5", 0, brokenAtOnce("rate 0;start 5;house 40 1;window 0 2 0"));
            Due.is("LIT in HOUR 7", 0, brokenAtOnce("rate 0;start 94;house 40 1;window 0 6 0"));
            Due.is("shaded in both", -1, brokenAtOnce("rate 0;house 40 1;window 0 4 0;house 31 7"));
        });
    }

    /** ANGLE 0 to YEAR 5, 48 in YEARS 6 and 7, then 0 again. */
    private static void brokenYears() {
        PlateTown x = Due.town("rate 8;calm 0 99 8;wind 5 5 20;wind 7 7 20;house 40 1;window 0 4 0");
        x.rope(5, 20);
        x.rope(7, 20);
        int[][] told = {{0, 99, 6}, {0, 5, -1}, {0, 6, 6}, {6, 6, 6}, {7, 7, 7}, {7, 99, 7}, {8, 99, -1}, {0, 0, -1},
            {99, 99, -1}};
        for (int i = 0; i < told.length; i++) {
            x.promise(0, told[i][0], told[i][1]);
            Due.is("broken from " + told[i][0] + " to " + told[i][1], told[i][2], x.broken(i));
        }
    }

    // ---- promise 20 ----

    private static void twice() {
        Due.edge("TWICE: none of none and of one", () -> {
            PlateTown x = town();
            Due.is("none", 0, x.twice());
            x.promise(0, 0, 99);
            Due.is("one", 0, x.twice());
        });
        Due.edge("TWICE: a YEAR in common, at either end", () -> {
            Due.is("0 to 5, 5 to 9", 1, twice(0, 5, 5, 9));
            Due.is("0 to 4, 5 to 9", 0, twice(0, 4, 5, 9));
            Due.is("5 to 9, 0 to 5", 1, twice(5, 9, 0, 5));
            Due.is("5 to 9, 0 to 4", 0, twice(5, 9, 0, 4));
            Due.is("0 to 99, 50 to 50", 1, twice(0, 99, 50, 50));
            Due.is("50 to 50, 0 to 99", 1, twice(50, 50, 0, 99));
            Due.is("7 to 7, twice", 1, twice(7, 7, 7, 7));
            Due.is("0 to 0, 99 to 99", 0, twice(0, 0, 99, 99));
        });
        Due.edge("TWICE: to WINDOWS of one HOUSE", () -> {
            PlateTown x = Due.town("house 40 5;house 41 5;window 0 4 0;window 1 4 0;window 0 2 0");
            x.promise(0, 0, 9);
            x.promise(1, 0, 9);
            Due.is("two HOUSES", 0, x.twice());
            x.promise(2, 0, 9);
            Due.is("two WINDOWS of one", 1, x.twice());
            x.promise(1, 0, 9);
            Due.is("one WINDOW of each", 2, x.twice());
        });
        Due.edge("TWICE: each pair once, of 16", () -> {
            PlateTown x = town();
            for (int i = 0; i < 16; i++) {
                x.promise(0, 0, 99);
            }
            Due.is("pairs", 120, x.twice());
        });
    }

    private static int twice(int from, int to, int otherFrom, int otherTo) {
        PlateTown x = town();
        x.promise(0, from, to);
        x.promise(0, otherFrom, otherTo);
        return x.twice();
    }
}
