import java.util.function.Consumer;

/** The edges that the Terms and promises 42 to 44 name for THE IMAGE and for count. */
public final class EdgeImageTest {
    public static void main(String[] args) {
        back();
        everyPart();
        notInImage();
        count();
        Due.close();
    }

    private static PlateTown town() {
        PlateTown x = Due.town("rate 4;bar 90;sea 40;gusts 60;wind 3 5 2;house 40 5;house 44 7;"
                + "house 42 9;window 0 4 0;window 1 3 0");
        Due.lease(x, "pay 7*year");
        x.let(0, 0, 1, 9);
        x.promise(0, 0, 99);
        x.drain(40, 31);
        x.paper(0, 6, true);
        x.wants(0, 2, 5);
        x.rope(5, 5);
        x.build(0, 2);
        return x;
    }

    // ---- promises 42 and 43 ----

    private static void back() {
        Due.edge("back: false, and nothing happens, if none was kept", () -> {
            PlateTown x = town();
            Due.keeps(x, "back", () -> Due.is("back", false, x.back()));
            Due.is("on an empty plate", false, new PlateTown().back());
        });
        Due.edge("back: true, as often as one likes", () -> {
            PlateTown x = town();
            x.image();
            for (int i = 0; i < 3; i++) {
                x.build(0, 1 + i);
                Due.is("back", true, x.back());
                Due.is("HEIGHT", 7, x.look(0, 1));
            }
            Due.is("without a change", true, x.back());
        });
        Due.edge("THE IMAGE (one): the later one instead", () -> {
            PlateTown x = town();
            x.image();
            x.build(0, 1);
            x.image();
            x.build(0, 2);
            Due.is("back", true, x.back());
            Due.is("HEIGHT of the later one", 8, x.look(0, 1));
            Due.is("back again", true, x.back());
            Due.is("and not of the one ahead", 8, x.look(0, 1));
        });
        Due.edge("THE IMAGE: of an empty plate", () -> {
            PlateTown x = new PlateTown();
            String empty = State.of(x);
            x.image();
            Due.tell(x, "house 0 1;window 0 0 0;rate 9;bar 3");
            Due.is("back", true, x.back());
            Due.is("an empty plate", empty, State.of(x));
        });
        Due.edge("THE IMAGE: what is done behind it does not change it", () -> {
            PlateTown x = town();
            x.image();
            String kept = State.of(x);
            Due.tell(x, "house 0 30;rate 1;wind 0 99 9");
            Due.lease(x, "pay 1");
            x.undo();
            x.back();
            Due.is("the town behind back", kept, State.of(x));
        });
        Due.edge("back: what is done behind it does not change THE IMAGE", () -> {
            PlateTown x = town();
            x.image();
            x.back();
            String kept = State.of(x);
            x.undo();
            x.rope(0, 9);
            x.back();
            Due.is("the town behind back", kept, State.of(x));
        });
    }

    private static void everyPart() {
        part("HOUSES", x -> Due.tell(x, "house 0 1"));
        part("HEIGHTS", x -> x.build(1, 9));
        part("WINDOWS", x -> Due.tell(x, "window 0 1 1"));
        part("START", x -> Due.tell(x, "start 9"));
        part("RATE", x -> Due.tell(x, "rate 9"));
        part("BAR", x -> Due.tell(x, "bar 9"));
        part("SEA", x -> Due.tell(x, "sea 9"));
        part("GUSTS", x -> Due.tell(x, "gusts 24"));
        part("WIND by a text", x -> Due.tell(x, "wind 0 0 9"));
        part("WIND by DRAWS", x -> x.blow(7));
        part("ROPES", x -> x.rope(5, 9));
        part("texts of THE TOWN", x -> Due.tell(x, ""));
        part("LEASES", x -> Due.lease(x, "pay 1"));
        part("LETS", x -> x.let(0, 0, 0, 99));
        part("PROMISES", x -> x.promise(0, 0, 0));
        part("DRAINS", x -> x.drain(0, 1));
        part("PAPERS", x -> x.paper(0, 6, false));
        part("buildings", x -> x.build(0, 1));
        part("buildings undone", PlateTown::undo);
        part("what FAMILIES want", x -> x.wants(0, 0, 99));
        Due.edge("THE IMAGE of all: BAR, where there was none", () -> {
            PlateTown x = new PlateTown();
            x.image();
            Due.tell(x, "bar 3");
            x.back();
            Due.is("angle 2", 6, x.angle(2));
        });
        Due.edge("THE IMAGE of all: where FAMILIES live", () -> {
            PlateTown x = Due.town("rate 0;house 40 1;house 44 1;window 1 4 0;house 0 1;window 2 3 0");
            x.wants(1, 0, 0);
            x.wants(2, 0, 0);
            Due.tell(x, "wind 0 0 12");
            x.wants(1, 1, 1);
            x.image();
            int moved = x.move();
            Due.is("some move", true, moved > 0);
            x.back();
            for (int house = 0; house < 3; house++) {
                Due.is("FAMILY in " + house, house, x.look(house, 3));
            }
            Due.is("and may move again", moved, x.move());
        });
        Due.edge("THE IMAGE of all: a LEASE of the same number", () -> {
            PlateTown x = Due.town("rate 0;house 40 1");
            x.image();
            Due.lease(x, "pay 1");
            x.back();
            Due.outside("no LEASE", () -> x.rent(0, 0, 0));
            Due.is("the first again", 0, Due.lease(x, "pay 2"));
            Due.is("rent", 2, x.rent(0, 0, 0));
        });
        Due.edge("THE IMAGE of all: room is as it was", () -> {
            PlateTown x = town();
            for (int i = 1; i < 16; i++) {
                x.paper(0, 6, true);
            }
            x.image();
            x.back();
            Due.full("a 17th", () -> x.paper(0, 6, true));
        });
    }

    private static void part(String name, Consumer<PlateTown> change) {
        Due.edge("THE IMAGE of all: " + name, () -> {
            PlateTown x = town();
            String before = State.of(x);
            x.image();
            change.accept(x);
            Due.is("it is changed", false, before.equals(State.of(x)));
            x.back();
            Due.is("the town behind back", before, State.of(x));
        });
    }

    private static void notInImage() {
        Due.edge("but for the TAPE: its bytes stay", () -> {
            PlateTown x = new PlateTown();
            Due.type(x, "rate 7");
            x.image();
            x.end(0);
            Due.type(x, "rate 8;");
            x.back();
            Due.is("seven bytes", true, x.end(7));
            x.end(6);
            x.town();
            Due.is("RATE", 8, x.angle(1));
            x.back();
            Due.is("used up", false, x.end(1));
        });
        Due.edge("but for fault()", () -> {
            PlateTown x = new PlateTown();
            Due.wrongTown(x, "rate 21", 5);
            x.image();
            Due.is("kept", 5, x.fault());
            Due.tell(x, "rate 1");
            x.back();
            Due.is("of the latest text", -1, x.fault());
            Due.wrongTown(x, "x", 0);
            x.back();
            Due.is("of the latest wrong text", 0, x.fault());
        });
        Due.edge("but for THE IMAGE itself", () -> {
            PlateTown x = new PlateTown();
            x.image();
            x.back();
            Due.is("it is there still", true, x.back());
        });
    }

    // ---- promise 44 ----

    private static void count() {
        Due.edge("count: NONE for another what", () -> {
            PlateTown x = town();
            for (int what : new int[] {-1, -2, 10, 11, Integer.MIN_VALUE, Integer.MAX_VALUE}) {
                Due.is("count " + what, -1, x.count(what));
            }
        });
        Due.edge("count: 0 to 9 of an empty plate", () -> {
            PlateTown x = new PlateTown();
            for (int what = 0; what <= 9; what++) {
                Due.is("count " + what, 0, x.count(what));
            }
        });
        Due.edge("count: 0 to 9, each its own, as many as there may be", () -> {
            PlateTown x = full();
            int[] counts = {10, 20, 6, 12, 16, 16, 8, 16, 20, 7};
            for (int what = 0; what <= 9; what++) {
                Due.is("count " + what, counts[what], x.count(what));
            }
        });
        Due.edge("count: 8 by building and undoing", () -> {
            PlateTown x = town();
            Due.is("one", 1, x.count(8));
            x.undo();
            Due.is("none", 0, x.count(8));
            x.undo();
            Due.is("none still", 0, x.count(8));
        });
    }

    private static PlateTown full() {
        PlateTown x = Due.town("house 0 30;house 1 30;house 2 30;house 3 30;house 4 30;house 5 30;house 6 30;house 7 30;"
                + "house 8 30;house 9 10", "window 0 0 0" + ";window 0 0 0".repeat(9),
                "window 0 0 0" + ";window 0 0 0".repeat(9), "", "", "", "", "", "", "", "", "");
        for (int i = 0; i < 6; i++) {
            Due.lease(x, "");
        }
        for (int i = 0; i < 16; i++) {
            x.let(0, 0, 0, 0);
            x.promise(0, 0, 0);
            x.paper(0, 0, true);
        }
        for (int i = 0; i < 8; i++) {
            x.drain(0, 1);
        }
        for (int i = 0; i < 20; i++) {
            x.build(9, 1);
        }
        return x;
    }
}
