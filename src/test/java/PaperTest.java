/** Promises 38 to 41: paper, years, push and blow. */
public final class PaperTest {
    public static void main(String[] args) {
        paper();
        years();
        push();
        pushSlowed();
        blow();
        Due.close();
    }

    private static void paper() {
        PlateTown x = Due.town("house 40 1;window 0 4 0");
        Due.outside("paper window 1", () -> x.paper(1, 0, true));
        Due.outside("paper window -1", () -> x.paper(-1, 0, true));
        Due.outside("paper hour 13", () -> x.paper(0, 13, false));
        Due.outside("paper hour -1", () -> x.paper(0, -1, false));
        for (int i = 1; i <= 16; i++) {
            Due.is("paper " + i, i, x.paper(0, i % 13, i % 2 == 0));
        }
        Due.full("a 17th paper", () -> x.paper(0, 0, true));
        Due.outside("a 17th paper of no window", () -> x.paper(1, 0, true));
        Due.outside("a 17th paper of no hour", () -> x.paper(0, 13, true));
        Due.is("papers", 16, x.count(7));
    }

    private static void years() {
        // ANGLE 3 times the YEAR: LIT at noon in 0 to 6, 27 to 38, 59 to 70, 91 to 99
        PlateTown x = Due.town("house 40 1;window 0 4 0");
        Due.is("all fit none", 100, x.years(-1));
        Due.is("the last of all", 99, x.years(99));
        Due.is("no more", -1, x.years(100));
        x.paper(0, 6, true);
        Due.is("how many", 7 + 12 + 12 + 9, x.years(-1));
        Due.is("the first", 0, x.years(0));
        Due.is("6", 6, x.years(6));
        Due.is("7", 27, x.years(7));
        Due.is("39", 99, x.years(39));
        Due.is("40", -1, x.years(40));
        Due.is("far", -1, x.years(Integer.MAX_VALUE));
        Due.illegal("years -2", () -> x.years(-2));
        Due.illegal("years MIN", () -> x.years(Integer.MIN_VALUE));
        // at hour 0 the sun is 24 PARTS farther east: LIT for ANGLES 55 to 90
        x.paper(0, 0, true);
        Due.is("both fit: 81 to 90", 4 + 4 + 4, x.years(-1));
        Due.is("the first of both", 27, x.years(0));
        Due.is("the last of both", 94, x.years(11));
        Due.is("no more of both", -1, x.years(12));
        x.paper(0, 0, false);
        Due.is("none fits", 0, x.years(-1));
        Due.is("none is the first", -1, x.years(0));
        PlateTown dark = Due.town("rate 0;house 40 1;window 0 0 0");
        dark.paper(0, 6, false);
        Due.is("not lit", 100, dark.years(-1));
    }

    private static void push() {
        PlateTown x = Due.town("rate 0;house 40 1;window 0 4 0;window 0 0 0;window 0 7 0;window 0 6 0");
        Due.is("lit as it is", 0, x.push(0, 0, 5));
        Due.is("north", 31, x.push(1, 0, 1));
        Due.is("any year behind", 31, x.push(1, 3, 4));
        Due.is("7", 43, x.push(2, 0, 99));
        Due.is("too far", -1, x.push(3, 0, 1));
        Due.is("the year itself", -1, x.push(1, 5, 5));
        Due.is("a year ahead", -1, x.push(1, 5, 4));
        Due.is("year 99", -1, x.push(1, 99, 99));
        x.rope(0, 20);
        Due.is("so much more", 11, x.push(1, 0, 1));
        Due.is("ropes stay", 20, x.angle(1));
        x.rope(1, 12);
        Due.is("with other ropes", 0, x.push(1, 0, 2));
        Due.outside("push window 4", () -> x.push(4, 0, 0));
        Due.outside("push window -1", () -> x.push(-1, 0, 0));
        Due.outside("push year 100", () -> x.push(0, 100, 0));
        Due.outside("push year -1", () -> x.push(0, -1, 0));
        Due.outside("push other 100", () -> x.push(0, 0, 100));
        Due.outside("push other -1", () -> x.push(0, 0, -1));
    }

    private static void pushSlowed() {
        PlateTown x = Due.town("rate 0;house 40 30;house 80 10;window 0 7 0;window 0 0 0");
        Due.is("LOAD", 44, x.push(0, 0, 1));
        Due.tell(x, "calm 0 0 4");
        Due.is("calm: 48 is enough", 48, x.push(0, 0, 1));
        Due.tell(x, "calm 0 0 5");
        Due.is("calm: 49 is too much", -1, x.push(0, 0, 1));
        Due.is("north", 37, x.push(1, 0, 1));
        Due.tell(x, "bar 30;calm 0 0 0");
        Due.is("the bar", -1, x.push(1, 0, 1));
        Due.tell(x, "bar 31");
        Due.is("up to the bar", 32, x.push(1, 0, 1));
        Due.tell(x, "rate 20;wind 0 0 20");
        Due.is("nothing more", 0, x.push(1, 0, 1));
    }

    private static void blow() {
        PlateTown x = Due.town("rate 6");
        Due.is("blow 1", 16, x.blow(1));
        int[] angles = {0, 9, 15, 20, 24, 34};
        for (int year = 0; year < angles.length; year++) {
            Due.is("angle " + year + " of blow 1", angles[year], x.angle(year));
        }
        Due.is("angle 99 of blow 1", 39, x.angle(99));
        Due.is("blow -1", -39, x.blow(-1));
        Due.is("angle 1 of blow -1", 2, x.angle(1));
        Due.is("angle 99 of blow -1", 70, x.angle(99));
        Due.is("blow 0", 47, x.blow(0));
        Due.is("blow 42", 61, x.blow(42));
        Due.is("blow MIN", 47, x.blow(Integer.MIN_VALUE));
        Due.is("blow MAX", -39, x.blow(Integer.MAX_VALUE));
        Due.tell(x, "wind 0 0 20");
        Due.is("wind of a text goes over it", 26, x.angle(1));
        x.rope(1, 7);
        Due.is("blow once more", 16, x.blow(1));
        Due.is("ropes stay", 22, x.angle(2));
    }
}
