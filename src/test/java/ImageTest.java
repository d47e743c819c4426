/** Promises 42 to 44: image, back and count. */
public final class ImageTest {
    public static void main(String[] args) {
        back();
        everything();
        leases();
        notInImage();
        count();
        Due.close();
    }

    private static void back() {
        PlateTown x = Due.town("house 40 5");
        Due.is("no image", false, x.back());
        Due.is("and nothing happens", 1, x.count(0));
        x.image();
        x.build(0, 5);
        Due.is("back", true, x.back());
        Due.is("height", 5, x.look(0, 1));
        Due.is("the building cannot be undone", -1, x.undo());
        x.build(0, 6);
        Due.is("back once more", true, x.back());
        Due.is("height once more", 5, x.look(0, 1));
        x.build(0, 1);
        x.image();
        x.undo();
        Due.is("back to the later one", true, x.back());
        Due.is("height of the later one", 6, x.look(0, 1));
        Due.is("its building can be undone", 0, x.undo());
        PlateTown y = new PlateTown();
        y.image();
        Due.tell(y, "house 0 1");
        Due.is("back to nothing", true, y.back());
        Due.is("nothing", 0, y.count(0));
    }

    private static String state(PlateTown x) {
        StringBuilder state = new StringBuilder();
        for (int what = 0; what <= 9; what++) {
            state.append(x.count(what)).append(' ');
        }
        for (int year : new int[] {0, 1, 5, 6, 50, 99}) {
            state.append(x.angle(year)).append(' ').append(x.level(0, year)).append(' ').append(x.houses(year, 1))
                    .append(' ');
        }
        state.append(x.look(0, 1)).append(' ').append(x.look(0, 3)).append(' ').append(x.look(0, 2)).append(' ');
        state.append(x.rent(0, 0, 7)).append(' ').append(x.due(0)).append(' ').append(x.broken(0)).append(' ');
        state.append(x.uphill(0, false)).append(' ').append(x.years(-1)).append(' ').append(x.good(0, 0)).append(' ');
        return state.append(x.twice()).toString();
    }

    private static void everything() {
        PlateTown x = Due.town("house 40 1;house 44 1;window 0 4 0;window 1 0 0;rate 4;wind 7 9 5");
        Due.lease(x, "pay 1*year");
        x.let(0, 0, 3, 9);
        x.promise(0, 0, 99);
        x.drain(40, 31);
        x.paper(0, 6, true);
        x.wants(0, 2, 5);
        x.rope(5, 5);
        x.build(0, 2);
        String before = state(x);
        x.image();
        Due.tell(x, "house 0 9;window 0 3 1;start 9;rate 0;bar 50;sea 9;gusts 9;wind 0 99 3");
        Due.lease(x, "pay 2");
        x.let(1, 1, 0, 0);
        x.promise(0, 0, 9);
        x.drain(1, 2);
        x.paper(0, 6, false);
        x.wants(0, 0, 0);
        x.wants(1, 7, 7);
        x.rope(1, 5);
        x.blow(7);
        x.undo();
        x.build(1, 6);
        x.move();
        Due.is("all is changed", false, before.equals(state(x)));
        x.back();
        Due.is("all is back: " + before + ", " + state(x), true, before.equals(state(x)));
        Due.is("the window in its house", 1, x.look(1, 2));
        Due.outside("no third house", () -> x.look(2, 0));
        Due.outside("no second drain", () -> x.runs(1, 0));
        Due.is("the building of then", 0, x.undo());
        Due.is("ropes of then", 5, x.rope(5, 0));
        Due.is("ropes of year 1 of then", 0, x.rope(1, 0));
        PlateTown y = Due.town("rate 0;house 40 1;house 44 1;window 0 4 0;wind 0 0 20");
        y.rope(0, 20);
        y.wants(0, 1, 1);
        y.image();
        y.wants(0, 0, 0);
        y.wants(1, 0, 0);
        Due.is("good of one year", 9, y.good(1, 0));
        y.back();
        Due.is("good of all years: 9, and 1 each by ANGLE 40", 9 + 99, y.good(1, 0));
        Due.is("good of the year of then", 1, y.good(0, 0));
    }

    private static void leases() {
        PlateTown x = Due.town("house 40 1");
        Due.lease(x, "pay 1");
        x.image();
        Due.is("a second", 1, Due.lease(x, "pay 2"));
        x.back();
        Due.outside("no second", () -> x.rent(1, 0, 0));
        Due.is("another second", 1, Due.lease(x, "pay 3"));
        Due.is("rent", 3, x.rent(1, 0, 0));
        Due.is("rent of the first", 1, x.rent(0, 0, 0));
        x.image();
        x.back();
        Due.is("rent of the image", 3, x.rent(1, 0, 0));
        for (int i = 2; i < 6; i++) {
            Due.is("lease " + i, i, Due.lease(x, ""));
        }
        x.back();
        Due.is("room again", 2, Due.lease(x, "pay 4"));
        Due.is("rent of it", 4, x.rent(2, 0, 0));
    }

    private static void notInImage() {
        PlateTown x = new PlateTown();
        Due.type(x, "rate 7");
        x.image();
        x.end(5);
        Due.is("back", true, x.back());
        Due.is("the TAPE stays", false, x.end(6));
        Due.is("as it is", true, x.end(5));
        Due.illegal("town", x::town);
        Due.is("fault", 5, x.fault());
        x.back();
        Due.is("fault stays", 5, x.fault());
        Due.type(x, "rate 7");
        x.back();
        Due.is("the TAPE is read", 1, x.town());
        x.back();
        Due.is("the image is there still", true, x.back());
        Due.is("texts of then", 0, x.count(3));
    }

    private static void count() {
        PlateTown x = Due.town("house 40 30;house 44 30;house 80 30;window 0 4 0;window 1 0 0", "");
        Due.lease(x, "");
        for (int i = 0; i < 4; i++) {
            x.let(0, 0, 0, 0);
        }
        for (int i = 0; i < 5; i++) {
            x.promise(0, 0, 0);
        }
        for (int i = 0; i < 6; i++) {
            x.drain(0, 1);
        }
        for (int i = 0; i < 7; i++) {
            x.paper(0, 0, true);
        }
        Due.tell(x, "house 0 1");
        for (int i = 0; i < 8; i++) {
            x.build(3, 1);
        }
        int[] counts = {4, 2, 1, 3, 4, 5, 6, 7, 8, 99 / 40};
        for (int what = 0; what < counts.length; what++) {
            Due.is("count " + what, counts[what], x.count(what));
        }
        Due.is("count 10", -1, x.count(10));
        Due.is("count -1", -1, x.count(-1));
        Due.is("count MAX", -1, x.count(Integer.MAX_VALUE));
        Due.is("count MIN", -1, x.count(Integer.MIN_VALUE));
        for (int i = 0; i < 21; i++) {
            x.build(3, 1);
        }
        Due.is("a height of 30", 30, x.look(3, 1));
        Due.is("20 buildings at most", 20, x.count(8));
        Due.is("LOAD of 120", 3, x.count(9));
        x.undo();
        Due.is("LOAD of 119", 2, x.count(9));
        Due.is("19 buildings", 19, x.count(8));
    }
}
