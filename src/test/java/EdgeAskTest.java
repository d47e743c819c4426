/** The calls of promises 6 to 44 that only ask: of two towns alike, both at their limits, but one is asked. */
public final class EdgeAskTest {
    private static final String HOUSES = "house 40 5;house 31 9;house 39 3;house 0 1;house 80 2;house 42 7;house 22 4";

    public static void main(String[] args) {
        ask("look, angle, stop, count", x -> {
            for (int what = 0; what <= 9; what++) {
                x.look(what % 7, what % 4);
                x.angle(11 * what);
                x.count(what);
            }
            x.stop();
        });
        ask("lit, light, bright, houses", x -> {
            x.lit(0, 6, 50);
            x.light(1, 0, 99);
            x.bright(0, 99);
            x.houses(7, 0);
            x.houses(7, 1);
            x.houses(7, 2);
        });
        ask("rent, due, broken, twice", x -> {
            x.rent(5, 6, 99);
            x.due(15);
            x.broken(15);
            x.twice();
        });
        ask("level, runs, uphill, pool, name", x -> {
            x.level(80, 99);
            x.runs(7, 99);
            x.uphill(7, true);
            x.uphill(7, false);
            x.pool(40, 99);
            x.name(7, 0, true);
            x.name(7, 99, false);
        });
        ask("lost", x -> x.lost(1, 9, 0, 0, 99));
        ask("takes", x -> x.takes(1, 9, 0, 99));
        ask("gable", x -> x.gable(1, 0, 0, 99));
        ask("good, swaps", x -> {
            x.good(0, 6);
            x.swaps(-1, 0);
            x.swaps(-1, 1);
            x.swaps(6, 0);
        });
        ask("left, years, push", x -> {
            x.left();
            x.years(-1);
            x.years(0);
            x.push(0, 0, 1);
            x.push(0, 98, 99);
        });
        ask("fault", PlateTown::fault);
        Due.close();
    }

    private static void ask(String calls, java.util.function.Consumer<PlateTown> asking) {
        Due.edge("who asks changes nothing: " + calls, () -> {
            PlateTown asked = fullTown();
            asking.accept(asked);
            Due.is("what is left of the town", left(fullTown()), left(asked));
        });
    }

    private static PlateTown fullTown() {
        PlateTown x = Due.town("rate 2;bar 70;sea 40;calm 3 9 1", HOUSES, "window 0 4 1;window 0 2 0;window 1 3 2");
        for (int i = 0; i < 6; i++) {
            Due.lease(x, "pay 7*light;less 3 if windy");
        }
        for (int i = 0; i < 16; i++) {
            x.let(i % 6, i % 7, i, 4 * i);
            x.promise(i % 3, i, i + 1);
            x.paper(i % 3, i % 13, i % 2 == 0);
            x.rope(6 * i, i);
        }
        for (int i = 0; i < 8; i++) {
            x.drain(i, 80 - i);
        }
        x.wants(0, 5, 60);
        x.image();
        for (int i = 0; i < 21; i++) {
            x.build(i % 7, 1 + i % 3);
        }
        Due.wrongTown(x, "rate 21", 5);
        Due.type(x, "rate 9");
        return x;
    }

    /** All that the town still answers: as it is, undone, told by the TAPE, and gone back to THE IMAGE. */
    private static String left(PlateTown x) {
        StringBuilder left = new StringBuilder(State.of(x));
        left.append("; fault ").append(x.fault());
        for (int i = 0; i < 21; i++) {
            int house = x.undo();
            left.append("; undone ").append(house).append(" to ").append(house < 0 ? 0 : x.look(house, 1));
        }
        left.append("; tape ").append(x.end(7)).append(x.town()).append(" to ").append(x.angle(1));
        left.append("; back ").append(x.back());
        return left.append("; ").append(State.of(x)).toString();
    }
}
