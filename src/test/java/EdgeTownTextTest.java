/** The edges that the Terms and promises 1 to 6 name for THE PLATE's numbers, the TAPE and texts of THE TOWN. */
public final class EdgeTownTextTest {
    private static final String TEN_HOUSES = "house 0 1;house 1 1;house 2 1;house 3 1;house 4 1;house 5 1;house 6 1;"
            + "house 7 1;house 8 1;house 80 1";
    private static final String TEN_WINDOWS = "window 0 0 0" + ";window 0 0 0".repeat(9);
    private static final String TWELVE_LINES = "rate 1" + ";rate 1".repeat(11);

    public static void main(String[] args) {
        newObject();
        tape();
        numbers();
        houseLines();
        windowLines();
        dialLines();
        windLines();
        words();
        wrongBytes();
        manyTexts();
        fault();
        Due.close();
    }

    // ---- promise 1 ----

    private static void newObject() {
        Due.edge("PlateTown(): An empty plate", EdgeTownTextTest::emptyPlate);
        Due.edge("START 0", () -> Due.is("angle 0", 0, new PlateTown().angle(0)));
        Due.edge("RATE 3", () -> Due.is("angle 1", 3, new PlateTown().angle(1)));
        Due.edge("no BAR at first", EdgeTownTextTest::noBarAtFirst);
        Due.edge("SEA 48 at first", EdgeTownTextTest::seaAtFirst);
        Due.edge("GUSTS 72 at first", EdgeTownTextTest::gustsAtFirst);
        Due.edge("WIND 0 of each YEAR at first", EdgeTownTextTest::noWindAtFirst);
        Due.edge("ROPES 0 at first", EdgeTownTextTest::noRopesAtFirst);
    }

    private static void emptyPlate() {
        PlateTown x = new PlateTown();
        for (int what = 0; what <= 9; what++) {
            Due.is("count " + what, 0, x.count(what));
        }
        Due.outside("look", () -> x.look(0, 0));
        Due.outside("lit", () -> x.lit(0, 0, 0));
        Due.outside("rent", () -> x.rent(0, 0, 0));
        Due.outside("due", () -> x.due(0));
        Due.outside("broken", () -> x.broken(0));
        Due.outside("runs", () -> x.runs(0, 0));
        Due.outside("good", () -> x.good(0, 0));
        Due.is("undo", -1, x.undo());
        Due.is("back", false, x.back());
        Due.is("fault", -1, x.fault());
        Due.is("the TAPE is empty", false, x.end(1));
        Due.is("twice", 0, x.twice());
        Due.is("left", 0, x.left());
        Due.is("years", 100, x.years(-1));
        for (int what = 0; what <= 2; what++) {
            Due.is("houses what " + what, 0, x.houses(0, what));
        }
    }

    private static void noBarAtFirst() {
        PlateTown x = Due.town("rate 1");
        for (int year = 0; year <= 99; year++) {
            Due.is("angle " + year, year % 96, x.angle(year));
        }
    }

    private static void seaAtFirst() {
        PlateTown x = Due.town("rate 0");
        Due.is("level of CELL 4", -4, x.level(4, 0));
        Due.is("level of CELL 36", 0, x.level(36, 0));
        Due.tell(x, "start 6");
        Due.is("ANGLE 6", 0, x.level(36, 0));
        Due.tell(x, "start 7");
        Due.is("ANGLE 7", 4, x.level(36, 0));
        Due.tell(x, "start 91");
        Due.is("ANGLE 91", 0, x.level(36, 0));
        Due.tell(x, "start 90");
        Due.is("ANGLE 90", -4, x.level(36, 0));
    }

    private static void gustsAtFirst() {
        PlateTown x = Due.town("rate 0;house 40 1;house 39 1;house 48 1;house 30 1");
        Due.is("from 6", 0b1110, x.houses(0, 1));
        Due.tell(x, "start 6");
        Due.is("ANGLE 6", 0b1110, x.houses(0, 1));
        Due.tell(x, "start 91");
        Due.is("ANGLE 91", 0b1110, x.houses(0, 1));
    }

    private static void noWindAtFirst() {
        PlateTown x = Due.town("rate 0");
        for (int year = 0; year <= 99; year++) {
            Due.is("angle " + year, 0, x.angle(year));
        }
    }

    private static void noRopesAtFirst() {
        PlateTown x = new PlateTown();
        for (int year = 0; year <= 99; year++) {
            Due.is("rope " + year, 0, x.rope(year, 0));
        }
    }

    // ---- promises 2 and 3 ----

    private static void tape() {
        Due.edge("feed: of each number the highest first", EdgeTownTextTest::highestFirst);
        Due.edge("feed: NONE, if it would have more than 400", EdgeTownTextTest::fullTape);
        Due.edge("feed: and none come, if it would have more than 400", EdgeTownTextTest::noneCome);
        Due.edge("end: false, if it has fewer", EdgeTownTextTest::endFewer);
        Due.edge("end: false, if n is below 0", EdgeTownTextTest::endBelow);
        Due.edge("end: and nothing happens", EdgeTownTextTest::endRefused);
        Due.edge("end: the first n bytes alone", EdgeTownTextTest::endFirst);
        Due.edge("town, lease and walk use the TAPE up", EdgeTownTextTest::usedUp);
    }

    private static void highestFirst() {
        PlateTown x = new PlateTown();
        x.feed('s' << 24 | 't' << 16 | 'a' << 8 | 'r', 't' << 24 | '1' << 8 | '2', 0, 0, 0);
        x.end(8);
        Due.illegal("a byte 0", x::town);
        Due.is("the byte 0", 5, x.fault());
        x.feed('s' << 24 | 't' << 16 | 'a' << 8 | 'r', 't' << 24 | ' ' << 16 | '1' << 8 | '2', 0, 0, 0);
        x.end(8);
        x.town();
        Due.is("START 12", 12, x.angle(0));
        String twenty = "rate 12;start 34    ";
        int[] fed = new int[5];
        for (int i = 0; i < 20; i++) {
            fed[i / 4] = fed[i / 4] * 256 + twenty.charAt(i);
        }
        Due.is("twenty bytes", 20, x.feed(fed[0], fed[1], fed[2], fed[3], fed[4]));
        Due.is("town", 2, x.town());
        Due.is("START 34", 34, x.angle(0));
        Due.is("RATE 12", 46, x.angle(1));
        x.feed(-1, 0, 0, 0, 0);
        x.end(1);
        Due.illegal("a byte 255", x::town);
        Due.is("the byte 255", 0, x.fault());
    }

    private static void fullTape() {
        PlateTown x = new PlateTown();
        for (int i = 1; i <= 20; i++) {
            Due.is("feed " + i, 20 * i, x.feed(0, 0, 0, 0, 0));
        }
        Due.is("feed to 420", -1, x.feed(0, 0, 0, 0, 0));
        Due.is("end 381", true, x.end(381));
        Due.is("feed to 401", -1, x.feed(0, 0, 0, 0, 0));
        Due.is("end 380", true, x.end(380));
        Due.is("feed to 400", 400, x.feed(0, 0, 0, 0, 0));
        Due.is("end 0", true, x.end(0));
        Due.is("feed an empty one", 20, x.feed(0, 0, 0, 0, 0));
    }

    private static void noneCome() {
        PlateTown x = new PlateTown();
        Due.type(x, "rate 7" + " ".repeat(387));
        Due.is("feed to 413", -1, x.feed(0, 0, 0, 0, 0));
        Due.is("not 394", false, x.end(394));
        Due.is("393", true, x.end(393));
        Due.is("town", 1, x.town());
        Due.is("RATE 7", 7, x.angle(1));
    }

    private static void endFewer() {
        PlateTown x = new PlateTown();
        Due.is("end 1 of none", false, x.end(1));
        Due.is("end 0 of none", true, x.end(0));
        x.feed(0, 0, 0, 0, 0);
        Due.is("end 21", false, x.end(21));
        Due.is("end 20", true, x.end(20));
        Due.is("end 20 again", true, x.end(20));
        Due.is("end MAX", false, x.end(Integer.MAX_VALUE));
    }

    private static void endBelow() {
        PlateTown x = new PlateTown();
        x.feed(0, 0, 0, 0, 0);
        Due.is("end -1", false, x.end(-1));
        Due.is("end MIN", false, x.end(Integer.MIN_VALUE));
        Due.is("end 0", true, x.end(0));
        Due.is("end -1 of none", false, x.end(-1));
    }

    private static void endRefused() {
        PlateTown x = new PlateTown();
        Due.type(x, "rate 17");
        x.end(8);
        x.end(-1);
        Due.is("seven bytes still", true, x.end(7));
        Due.is("town", 1, x.town());
        Due.is("RATE 17", 17, x.angle(1));
    }

    private static void endFirst() {
        PlateTown x = new PlateTown();
        Due.type(x, "rate 17;rate 9");
        x.end(6);
        Due.is("no seventh byte", false, x.end(7));
        Due.is("town", 1, x.town());
        Due.is("RATE 1", 1, x.angle(1));
    }

    private static void usedUp() {
        PlateTown x = Due.town("rate 1");
        Due.is("behind a town", false, x.end(1));
        Due.lease(x, "void");
        Due.is("behind a lease", false, x.end(1));
        Due.walk(x, "go 1 east", 0, 0);
        Due.is("behind a walk", false, x.end(1));
        Due.wrongTown(x, "rate", 4);
        Due.is("behind a wrong town", false, x.end(1));
        Due.wrongLease(x, "pay", 3);
        Due.is("behind a wrong lease", false, x.end(1));
        Due.wrongWalk(x, "go", 2);
        Due.is("behind a wrong walk", false, x.end(1));
        Due.is("feed from nothing on", 20, x.feed(0, 0, 0, 0, 0));
    }

    // ---- numbers and LINES of THE TOWN ----

    private static void numbers() {
        Due.edge("All numbers are of 1 to 3 digits", EdgeTownTextTest::digits);
        Due.edge("CELLS 0 to 80 in a text", EdgeTownTextTest::cells);
        Due.edge("DIRECTIONS 0 to 7 in a text", EdgeTownTextTest::directions);
        Due.edge("HEIGHT 1 to 30", EdgeTownTextTest::heights);
        Due.edge("UP 0 to 29", EdgeTownTextTest::ups);
        Due.edge("YEARS: 0 to 99 in a text", EdgeTownTextTest::yearsInTexts);
        Due.edge("TO not below FROM", EdgeTownTextTest::toBelowFrom);
    }

    private static void digits() {
        PlateTown x = new PlateTown();
        Due.is("one, two, three digits", 1, Due.tell(x, "rate 9;start 09;bar 009"));
        Due.is("START", 9, x.angle(0));
        Due.is("zero of three digits", 2, Due.tell(x, "rate 000"));
        Due.wrongTown(x, "rate 0000", 5);
        Due.wrongTown(x, "rate 0009", 5);
        Due.wrongTown(x, "rate 1000", 5);
        Due.wrongTown(x, "house 0005 1", 6);
        Due.wrongTown(x, "house 5 0001", 8);
        Due.wrongTown(x, "wind 0000 1 1", 5);
        Due.wrongTown(x, "wind 0 0001 1", 7);
        Due.wrongTown(x, "wind 0 1 0001", 9);
        Due.wrongTown(x, "rate 4294967297", 5);
        Due.wrongTown(x, "rate -0", 5);
        Due.wrongTown(x, "rate +1", 5);
    }

    private static void cells() {
        PlateTown x = new PlateTown();
        Due.is("0 and 80", 1, Due.tell(x, "house 0 1;house 80 1"));
        Due.is("CELL 0", 0, x.look(0, 0));
        Due.is("CELL 80", 80, x.look(1, 0));
        Due.wrongTown(x, "house 81 1", 6);
        Due.wrongTown(x, "house 999 1", 6);
    }

    private static void directions() {
        PlateTown x = Due.town("rate 0;start 48;house 40 1");
        Due.is("0 and 7", 2, Due.tell(x, "window 0 0 0;window 0 7 0"));
        Due.wrongTown(x, "window 0 8 0", 9);
        Due.wrongTown(x, "window 0 999 0", 9);
        Due.is("windows", 2, x.count(1));
    }

    private static void heights() {
        PlateTown x = new PlateTown();
        Due.is("1 and 30", 1, Due.tell(x, "house 0 1;house 1 30"));
        Due.is("HEIGHT 1", 1, x.look(0, 1));
        Due.is("HEIGHT 30", 30, x.look(1, 1));
        Due.wrongTown(x, "house 2 0", 8);
        Due.wrongTown(x, "house 2 31", 8);
        Due.wrongTown(x, "house 2 999", 8);
    }

    private static void ups() {
        PlateTown x = Due.town("rate 0;house 40 1;house 31 30;window 0 4 0;window 0 4 29");
        Due.is("UP 0 in the shade", false, x.lit(0, 5, 0));
        Due.is("UP 29 above it", true, x.lit(1, 5, 0));
        Due.wrongTown(x, "window 0 4 30", 11);
        Due.wrongTown(x, "window 0 4 999", 11);
    }

    private static void yearsInTexts() {
        PlateTown x = Due.town("rate 0");
        Due.is("all", 2, Due.tell(x, "wind 0 99 1"));
        Due.is("angle 1", 1, x.angle(1));
        Due.is("angle 99", 3, x.angle(99));
        Due.wrongTown(x, "wind 100 100 1", 5);
        Due.wrongTown(x, "calm 100 100 1", 5);
        Due.wrongTown(x, "wind 0 100 1", 7);
        Due.wrongTown(x, "calm 0 100 1", 7);
        Due.is("the last alone", 3, Due.tell(x, "calm 99 99 1"));
    }

    private static void toBelowFrom() {
        PlateTown x = Due.town("rate 0");
        Due.is("one YEAR", 2, Due.tell(x, "wind 5 5 2;calm 6 6 1"));
        Due.is("angle 6", 2, x.angle(6));
        Due.is("angle 7", 2, x.angle(7));
        Due.wrongTown(x, "wind 5 4 1", 7);
        Due.wrongTown(x, "calm 5 4 1", 7);
        Due.wrongTown(x, "wind 99 0 1", 8);
        Due.wrongTown(x, "calm 99 98 1", 8);
    }

    private static void houseLines() {
        Due.edge("at most 10 HOUSES, numbered from 0 on", EdgeTownTextTest::tenHouses);
        Due.edge("a HOUSE on a CELL with none: of the same text", () ->
                Due.wrongTown(new PlateTown(), "house 5 1;house 6 1;house 5 2", 26));
        Due.edge("a HOUSE on a CELL with none: of an earlier text", () ->
                Due.wrongTown(Due.town("house 0 1;house 80 1"), "house 80 1", 6));
        Due.edge("a HOUSE on a CELL with none: CELL 0", () ->
                Due.wrongTown(Due.town("house 0 1"), "house 0 1", 6));
        Due.edge("one FAMILY in each HOUSE, the tenth too", EdgeTownTextTest::tenFamilies);
    }

    private static void tenHouses() {
        PlateTown x = Due.town(TEN_HOUSES);
        Due.is("houses", 10, x.count(0));
        for (int house = 0; house < 9; house++) {
            Due.is("CELL of " + house, house, x.look(house, 0));
        }
        Due.is("CELL of 9", 80, x.look(9, 0));
        Due.outside("an 11th", () -> x.look(10, 0));
        Due.keeps(x, "an 11th", () -> Due.wrongTown(x, "house 40 1", 0));
        Due.keeps(x, "an 11th", () -> Due.wrongTown(x, "rate 9; house 40 1", 8));
    }

    private static void tenFamilies() {
        PlateTown x = Due.town(TEN_HOUSES);
        for (int house = 0; house < 10; house++) {
            Due.is("FAMILY of " + house, house, x.look(house, 3));
        }
        x.wants(9, 0, 0);
        Due.is("good", 0, x.good(9, 0));
        Due.outside("an 11th FAMILY", () -> x.wants(10, 0, 0));
    }

    private static void windowLines() {
        Due.edge("at most 20 WINDOWS, numbered from 0 on", EdgeTownTextTest::twentyWindows);
        Due.edge("a WINDOW of a HOUSE that is there by then", EdgeTownTextTest::thereByThen);
    }

    private static void twentyWindows() {
        PlateTown x = Due.town("house 0 1;house 80 1;" + TEN_WINDOWS, TEN_WINDOWS.substring(13) + ";window 1 4 0");
        Due.is("windows", 20, x.count(1));
        Due.is("windows of 0", 19, x.look(0, 2));
        Due.is("windows of 1", 1, x.look(1, 2));
        x.light(19, 0, 0);
        Due.outside("a 21st", () -> x.light(20, 0, 0));
        Due.keeps(x, "a 21st", () -> Due.wrongTown(x, "window 0 0 0", 0));
        Due.keeps(x, "a 21st", () -> Due.wrongTown(x, "rate 9; window 0 0 0", 8));
    }

    private static void thereByThen() {
        PlateTown x = new PlateTown();
        Due.wrongTown(x, "window 0 0 0;house 5 1", 7);
        Due.is("HOUSE ahead of it", 1, Due.tell(x, "house 5 1;window 0 0 0"));
        Due.is("of an earlier text", 2, Due.tell(x, "window 0 0 0"));
        Due.wrongTown(x, "window 1 0 0", 7);
        Due.wrongTown(x, "window 1 0 0;house 6 1", 7);
        Due.is("the next HOUSE", 3, Due.tell(x, "house 6 1;window 1 0 0"));
        Due.is("windows of 1", 1, x.look(1, 2));
    }

    private static void dialLines() {
        for (String word : new String[] {"start", "bar", "sea", "gusts"}) {
            Due.edge(word + " P: 0 to 95", () -> parts(word));
        }
        Due.edge("rate N: 0 to 20", EdgeTownTextTest::rates);
        Due.edge("one behind another: the later LINE holds", EdgeTownTextTest::laterHolds);
    }

    private static void parts(String word) {
        PlateTown x = new PlateTown();
        Due.is("0", 1, Due.tell(x, word + " 0"));
        Due.is("95", 2, Due.tell(x, word + " 95"));
        Due.wrongTown(x, word + " 96", word.length() + 1);
        Due.wrongTown(x, word + " 999", word.length() + 1);
        Due.wrongTown(x, word + " 0 0", word.length() + 3);
    }

    private static void rates() {
        PlateTown x = Due.town("rate 20");
        Due.is("20", 20, x.angle(1));
        Due.wrongTown(x, "rate 21", 5);
        Due.wrongTown(x, "rate 999", 5);
        Due.tell(x, "rate 0");
        Due.is("0", 0, x.angle(1));
    }

    private static void laterHolds() {
        PlateTown x = Due.town("rate 1;rate 2;start 5;start 6");
        Due.is("angle 1", 8, x.angle(1));
        Due.tell(x, "rate 9");
        Due.is("of a later text", 15, x.angle(1));
        PlateTown y = Due.town("rate 6;wind 0 0 5;wind 0 0 7");
        Due.is("wind is told anew", 13, y.angle(1));
        Due.tell(y, "calm 0 0 2");
        Due.is("by calm, too", 4, y.angle(1));
        Due.tell(y, "wind 0 9 1");
        Due.is("and by wind again", 7, y.angle(1));
    }

    private static void windLines() {
        Due.edge("wind N: 0 to 20", EdgeTownTextTest::winds);
        Due.edge("calm: WIND is less than nothing by N", EdgeTownTextTest::calms);
        Due.edge("wind FROM TO: both of them, and no other YEAR", EdgeTownTextTest::windYears);
    }

    private static void winds() {
        PlateTown x = Due.town("rate 0;wind 0 0 20;wind 1 1 0");
        Due.is("20", 20, x.angle(1));
        Due.is("0", 20, x.angle(2));
        Due.wrongTown(x, "wind 0 0 21", 9);
        Due.wrongTown(x, "wind 0 0 999", 9);
    }

    private static void calms() {
        PlateTown x = Due.town("rate 20;calm 0 0 20;calm 1 1 19;calm 2 2 0");
        Due.is("20 less", 0, x.angle(1));
        Due.is("19 less", 1, x.angle(2));
        Due.is("0 less", 21, x.angle(3));
        Due.wrongTown(x, "calm 0 0 21", 9);
        Due.wrongTown(x, "calm 0 0 999", 9);
        Due.tell(x, "calm 0 0 0");
        Due.is("calm 0 is nothing", 20, x.angle(1));
    }

    private static void windYears() {
        PlateTown x = Due.town("rate 0;wind 4 6 5");
        Due.is("year 4 is still", 0, x.angle(4));
        Due.is("year 5", 5, x.angle(5));
        Due.is("year 7", 15, x.angle(7));
        Due.is("year 8 is still", 15, x.angle(8));
    }

    // ---- words, blanks, the first wrong byte ----

    private static void words() {
        Due.edge("Words are as long as a to z go on", EdgeTownTextTest::wordEnds);
        Due.edge("between all there may be blanks, also ahead and behind", EdgeTownTextTest::blanks);
        Due.edge("blanks (32) alone are blanks", EdgeTownTextTest::noBlanks);
        Due.edge("A text that is empty has no LINE", EdgeTownTextTest::emptyText);
        Due.edge("A text of blanks alone has no LINE", EdgeTownTextTest::blankText);
    }

    private static void wordEnds() {
        PlateTown x = new PlateTown();
        Due.is("a number ends a word", 1, Due.tell(x, "rate5;start7"));
        Due.is("angle", 12, x.angle(1));
        Due.wrongTown(x, "ratee 5", 0);
        Due.wrongTown(x, "ratea 5", 0);
        Due.wrongTown(x, "ratez 5", 0);
        Due.wrongTown(x, "rat 5", 0);
        Due.wrongTown(x, "ra te 5", 0);
        Due.wrongTown(x, "ratestart 5", 0);
        Due.wrongTown(x, "Rate 5", 0);
        Due.wrongTown(x, "ratE 5", 0);
        Due.wrongTown(x, "rate{5", 4);
        Due.wrongTown(x, "rate`5", 4);
        Due.wrongTown(x, "rate 5z", 6);
        Due.wrongTown(x, "zate 5", 0);
        Due.wrongTown(x, "rate/5", 4);
        Due.wrongTown(x, "rate:5", 4);
    }

    private static void blanks() {
        PlateTown x = new PlateTown();
        Due.is("many", 1, Due.tell(x, "   house   5    6   ;   window   0   7   8   ;   rate   9   "));
        Due.is("none", 2, Due.tell(x, "house6 7;window1 7 8;rate8;wind0 1 2"));
        Due.is("HEIGHT", 7, x.look(1, 1));
        Due.is("angle", 10, x.angle(1));
        Due.wrongTown(x, "  house  7  31  ", 12);
    }

    private static void noBlanks() {
        PlateTown x = new PlateTown();
        for (int sign : new int[] {0, 9, 10, 13, 31, 33, 127, 128, 160, 255}) {
            Due.wrongTown(x, (char) sign + "rate 5", 0);
            Due.wrongTown(x, "rate" + (char) sign + "5", 4);
            Due.wrongTown(x, "rate 5" + (char) sign, 6);
        }
        Due.wrongTown(x, "" + (char) 0, 0);
    }

    private static void emptyText() {
        PlateTown x = new PlateTown();
        Due.is("a town", 1, x.town());
        Due.is("a lease", 0, x.lease());
        Due.is("a walk", 80, x.walk(80, 0));
        Due.is("fault", -1, x.fault());
        Due.is("its angle", 3, x.angle(1));
    }

    private static void blankText() {
        PlateTown x = new PlateTown();
        Due.is("a blank", 1, Due.tell(x, " "));
        Due.is("400 blanks", 2, Due.tell(x, " ".repeat(400)));
        Due.is("a lease", 0, Due.lease(x, " ".repeat(400)));
        Due.is("a walk", 0, Due.walk(x, " ", 0, 99));
        Due.is("fault", -1, x.fault());
    }

    private static void wrongBytes() {
        Due.edge("the begin of the first thing that cannot stand there", EdgeTownTextTest::firstThing);
        Due.edge("a word that is none", EdgeTownTextTest::noWord);
        Due.edge("of a 13th LINE the first word", EdgeTownTextTest::thirteenthLine);
        Due.edge("of a HOUSE for which there is no room the first word", EdgeTownTextTest::noRoomForHouse);
        Due.edge("of a WINDOW for which there is no room the first word", EdgeTownTextTest::noRoomForWindow);
        Due.edge("the text's length, if more must come", EdgeTownTextTest::moreMustCome);
        Due.edge("Of a wrong text nothing stays", EdgeTownTextTest::nothingStays);
    }

    private static void firstThing() {
        PlateTown x = new PlateTown();
        Due.wrongTown(x, "5", 0);
        Due.wrongTown(x, ";", 0);
        Due.wrongTown(x, "  ;", 2);
        Due.wrongTown(x, "rate ;", 5);
        Due.wrongTown(x, "rate rate", 5);
        Due.wrongTown(x, "rate 1 rate 2", 7);
        Due.wrongTown(x, "rate 1;;", 7);
        Due.wrongTown(x, "rate 99 99", 5);
        Due.wrongTown(x, "house 81 31", 6);
        Due.wrongTown(x, "house 5 31;house 5 1", 8);
        Due.wrongTown(x, "wind 0 1 2 3", 11);
        Due.wrongTown(x, "window", 6);
        Due.wrongTown(x, "window 0", 7);
        Due.wrongTown(x, "(rate 1)", 0);
    }

    private static void noWord() {
        PlateTown x = new PlateTown();
        for (String word : new String[] {"pay", "less", "void", "if", "noon", "go", "north", "light", "and", "x", "a"}) {
            Due.wrongTown(x, "rate 1; " + word + " 1", 8);
        }
    }

    private static void thirteenthLine() {
        PlateTown x = new PlateTown();
        Due.is("twelve", 1, Due.tell(x, TWELVE_LINES));
        Due.wrongTown(x, TWELVE_LINES + ";rate 1", 84);
        Due.wrongTown(x, TWELVE_LINES + "  ;  rate 1", 88);
        Due.wrongTown(x, TWELVE_LINES + ";house 99 99", 84);
        Due.wrongTown(x, TWELVE_LINES + ";x", 84);
        Due.wrongTown(x, TWELVE_LINES + ";", 84);
        Due.wrongTown(x, TWELVE_LINES + " x", 84);
    }

    private static void noRoomForHouse() {
        PlateTown x = new PlateTown();
        Due.wrongTown(x, TEN_HOUSES + ";house 40 1", TEN_HOUSES.length() + 1);
        Due.wrongTown(x, TEN_HOUSES + "; house 0 99", TEN_HOUSES.length() + 2);
        Due.wrongTown(x, TEN_HOUSES + ";house", TEN_HOUSES.length() + 1);
        Due.tell(x, TEN_HOUSES);
        Due.wrongTown(x, " house", 1);
        Due.is("a window has room", 2, Due.tell(x, "window 9 0 0"));
    }

    private static void noRoomForWindow() {
        PlateTown x = Due.town("house 0 1;" + TEN_WINDOWS, TEN_WINDOWS);
        Due.wrongTown(x, "window", 0);
        Due.wrongTown(x, "  window 9 9 99", 2);
        Due.is("a house has room", 3, Due.tell(x, "house 1 1"));
        PlateTown y = Due.town("house 0 1;" + TEN_WINDOWS);
        Due.wrongTown(y, TEN_WINDOWS + "; window 0 0 0", TEN_WINDOWS.length() + 2);
        Due.is("windows", 10, y.count(1));
    }

    private static void moreMustCome() {
        PlateTown x = Due.town("house 80 1");
        for (String text : new String[] {"house", "house 1", "window", "window 0", "window 0 0", "start", "rate", "bar",
            "sea", "gusts", "wind", "wind 0", "wind 0 0", "calm", "calm 0", "calm 0 0", "rate 1;", "rate 1 ; "}) {
            Due.wrongTown(x, text, text.length());
            Due.wrongTown(x, text + "  ", text.length() + 2);
        }
        String longest = "rate 1;" + " ".repeat(393);
        Due.wrongTown(x, longest, 400);
    }

    private static void nothingStays() {
        PlateTown x = Due.town("house 5 1;window 0 4 0;rate 2;wind 0 0 1");
        Due.keeps(x, "a wrong text", () -> Due.wrongTown(x,
                "house 6 1;house 7 1;window 1 0 0;start 9;rate 9;bar 9;sea 0;gusts 0;wind 0 9 9;calm 9 99 9;x", 91));
        Due.is("the CELL is free", 2, Due.tell(x, "house 6 1"));
        Due.is("and its HOUSE the next one", 6, x.look(1, 0));
    }

    // ---- promises 4 and 6 ----

    private static void manyTexts() {
        Due.edge("town: how many there are", EdgeTownTextTest::howMany);
        Due.edge("town: UnsupportedOperationException: there are 12", EdgeTownTextTest::twelveTexts);
        Due.edge("town: IllegalArgumentException ahead of it: it is wrong", EdgeTownTextTest::wrongThirteenth);
    }

    private static void howMany() {
        PlateTown x = new PlateTown();
        for (int i = 1; i <= 12; i++) {
            Due.is("text " + i, i, Due.tell(x, i % 2 == 0 ? "" : "rate " + i));
            Due.is("count", i, x.count(3));
        }
    }

    private static void twelveTexts() {
        PlateTown x = Due.town("house 5 1;rate 2", "", "", "", "", "", "", "", "", "", "", "");
        Due.keeps(x, "a 13th", () -> {
            Due.type(x, "house 6 1;rate 7");
            Due.full("a 13th text", x::town);
        });
        Due.is("the TAPE is used up", false, x.end(1));
        Due.full("an empty 13th text", x::town);
        Due.is("texts", 12, x.count(3));
    }

    private static void wrongThirteenth() {
        PlateTown x = Due.town("", "", "", "", "", "", "", "", "", "", "", "");
        Due.keeps(x, "a wrong 13th", () -> Due.wrongTown(x, "rate 21", 5));
        Due.is("texts", 12, x.count(3));
    }

    private static void fault() {
        Due.edge("fault: NONE ahead of any text", () -> Due.is("fault", -1, new PlateTown().fault()));
        Due.edge("fault: of the latest text", EdgeTownTextTest::latestFault);
        Due.edge("fault: NONE without one", EdgeTownTextTest::noFault);
    }

    private static void latestFault() {
        PlateTown x = new PlateTown();
        Due.wrongTown(x, "rate 21", 5);
        Due.wrongLease(x, "pay", 3);
        Due.wrongWalk(x, "go 1 up", 5);
        Due.wrongTown(x, "x", 0);
        x.angle(0);
        Due.is("fault stays", 0, x.fault());
        Due.type(x, "rate 1");
        Due.is("a text that was not read yet", 0, x.fault());
    }

    private static void noFault() {
        PlateTown x = new PlateTown();
        Due.wrongTown(x, "rate 21", 5);
        Due.tell(x, "rate 1");
        Due.is("behind a right town", -1, x.fault());
        Due.wrongTown(x, "rate 21", 5);
        Due.lease(x, "void");
        Due.is("behind a right lease", -1, x.fault());
        Due.wrongTown(x, "rate 21", 5);
        Due.walk(x, "go 1 east", 0, 0);
        Due.is("behind a right walk", -1, x.fault());
        Due.wrongTown(x, "rate 21", 5);
        Due.walk(x, "go 9 west", 0, 0);
        Due.is("behind a right walk beyond the edge", -1, x.fault());
    }
}
