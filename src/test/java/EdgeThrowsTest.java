/** The last paragraph of the Terms: a call that throws changes nothing but the TAPE, where it is used up. */
public final class EdgeThrowsTest {
    public static void main(String[] args) {
        keepsAll();
        keepsTape();
        keepsFault();
        Due.close();
    }

    private static PlateTown town() {
        PlateTown x = Due.town("rate 4;bar 90;sea 40;wind 3 5 2;house 40 5;house 44 30;window 0 4 0;window 1 3 0");
        Due.lease(x, "pay 7*year");
        x.let(0, 0, 1, 9);
        x.promise(0, 0, 99);
        x.drain(40, 31);
        x.paper(0, 6, true);
        x.wants(0, 2, 5);
        x.rope(5, 5);
        x.build(0, 2);
        return x;
    }

    private static void keepsAll() {
        keeps("look", x -> {
            Due.outside("look", () -> x.look(2, 0));
            Due.another("look", () -> x.look(0, 4));
        });
        keeps("angle", x -> Due.outside("angle", () -> x.angle(100)));
        keeps("rope", x -> {
            Due.outside("rope", () -> x.rope(100, 3));
            Due.outside("rope", () -> x.rope(-1, 3));
            Due.illegal("rope", () -> x.rope(5, 21));
            Due.illegal("rope", () -> x.rope(5, -1));
        });
        keeps("lit, light, bright, houses", x -> {
            Due.outside("lit", () -> x.lit(2, 0, 0));
            Due.outside("light", () -> x.light(2, 0, 0));
            Due.illegal("light", () -> x.light(0, 1, 0));
            Due.outside("bright", () -> x.bright(2, 0));
            Due.outside("houses", () -> x.houses(100, 0));
            Due.another("houses", () -> x.houses(0, 3));
        });
        keeps("rent, let, due", x -> {
            Due.outside("rent", () -> x.rent(1, 0, 0));
            Due.outside("let", () -> x.let(1, 0, 0, 0));
            Due.outside("let", () -> x.let(0, 0, 0, 100));
            Due.illegal("let", () -> x.let(0, 0, 1, 0));
            Due.outside("due", () -> x.due(1));
        });
        keeps("promise, broken", x -> {
            Due.outside("promise", () -> x.promise(2, 0, 0));
            Due.outside("promise", () -> x.promise(0, 0, 100));
            Due.illegal("promise", () -> x.promise(0, 1, 0));
            Due.outside("broken", () -> x.broken(1));
        });
        keeps("level, drain, runs, uphill, pool, name", x -> {
            Due.outside("level", () -> x.level(81, 0));
            Due.outside("drain", () -> x.drain(0, 81));
            Due.illegal("drain", () -> x.drain(3, 3));
            Due.outside("runs", () -> x.runs(1, 0));
            Due.outside("uphill", () -> x.uphill(1, true));
            Due.outside("pool", () -> x.pool(81, 0));
            Due.outside("name", () -> x.name(8, 0, true));
        });
        keeps("walk", x -> {
            Due.wrongWalk(x, "go 1 up", 5);
            Due.type(x, "go 1 east");
            Due.outside("walk", () -> x.walk(81, 0));
        });
        keeps("town, lease", x -> {
            Due.wrongTown(x, "house 0 1;window 0 0 0;start 7;rate 7;bar 7;sea 7;gusts 7;wind 0 99 7;x", 70);
            Due.wrongLease(x, "pay 1;void;x", 11);
        });
        keepsMore();
    }

    private static void keepsMore() {
        keeps("build, lost, takes, gable", x -> {
            Due.outside("build", () -> x.build(2, 1));
            Due.illegal("build", () -> x.build(0, 0));
            Due.illegal("build", () -> x.build(1, 1));
            Due.outside("lost", () -> x.lost(0, 1, 2, 0, 0));
            Due.illegal("lost", () -> x.lost(1, 1, 0, 0, 0));
            Due.illegal("lost", () -> x.lost(0, 1, 0, 1, 0));
            Due.illegal("takes", () -> x.takes(1, 1, 0, 0));
            Due.outside("gable", () -> x.gable(0, 0, 0, 100));
            Due.illegal("gable", () -> x.gable(0, 0, 1, 0));
        });
        keeps("wants, good, swaps", x -> {
            Due.outside("wants", () -> x.wants(2, 0, 0));
            Due.outside("wants", () -> x.wants(0, 0, 100));
            Due.illegal("wants", () -> x.wants(0, 1, 0));
            Due.outside("good", () -> x.good(0, 2));
            Due.outside("swaps", () -> x.swaps(2, 0));
            Due.another("swaps", () -> x.swaps(0, 2));
        });
        keeps("paper, years, push", x -> {
            Due.outside("paper", () -> x.paper(2, 0, true));
            Due.outside("paper", () -> x.paper(0, 13, true));
            Due.illegal("years", () -> x.years(-2));
            Due.outside("push", () -> x.push(0, 0, 100));
        });
        Due.edge("a call that throws keeps no IMAGE and goes back to none", () -> {
            PlateTown x = town();
            Due.outside("look", () -> x.look(2, 0));
            Due.is("back", false, x.back());
        });
    }

    private static void keeps(String calls, java.util.function.Consumer<PlateTown> thrown) {
        Due.edge("a call that throws changes nothing: " + calls, () -> {
            PlateTown x = town();
            Due.keeps(x, calls, () -> thrown.accept(x));
        });
    }

    private static void throwOften(PlateTown x) {
        Due.outside("look", () -> x.look(2, 0));
        Due.another("look", () -> x.look(0, 4));
        Due.outside("angle", () -> x.angle(-1));
        Due.illegal("rope", () -> x.rope(0, 21));
        Due.outside("lit", () -> x.lit(0, 13, 0));
        Due.illegal("light", () -> x.light(0, 1, 0));
        Due.outside("bright", () -> x.bright(0, 100));
        Due.another("houses", () -> x.houses(0, -1));
        Due.outside("rent", () -> x.rent(0, 0, 100));
        Due.illegal("let", () -> x.let(0, 0, 1, 0));
        Due.outside("due", () -> x.due(-1));
        Due.illegal("promise", () -> x.promise(0, 1, 0));
        Due.outside("broken", () -> x.broken(-1));
        Due.outside("level", () -> x.level(-1, 0));
        Due.illegal("drain", () -> x.drain(0, 0));
        Due.outside("runs", () -> x.runs(-1, 0));
        Due.outside("uphill", () -> x.uphill(-1, true));
        Due.outside("pool", () -> x.pool(-1, 0));
        Due.outside("name", () -> x.name(-1, 0, true));
        Due.illegal("build", () -> x.build(0, 30));
        Due.illegal("lost", () -> x.lost(0, 30, 0, 0, 0));
        Due.illegal("takes", () -> x.takes(0, 30, 0, 0));
        Due.illegal("gable", () -> x.gable(0, 0, 1, 0));
        Due.illegal("wants", () -> x.wants(0, 1, 0));
        Due.outside("good", () -> x.good(-1, 0));
        Due.another("swaps", () -> x.swaps(-1, -1));
        Due.outside("paper", () -> x.paper(-1, 0, true));
        Due.illegal("years", () -> x.years(-2));
        Due.outside("push", () -> x.push(-1, 0, 0));
    }

    private static void keepsTape() {
        Due.edge("a call that throws leaves the TAPE, but for town, lease and walk", () -> {
            PlateTown x = town();
            Due.type(x, "rate 17");
            throwOften(x);
            Due.is("not eight bytes", false, x.end(8));
            Due.is("seven bytes", true, x.end(7));
            Due.is("the text", 2, x.town());
            Due.is("RATE", 17, x.angle(1));
        });
    }

    private static void keepsFault() {
        Due.edge("a call that throws leaves fault(), but for a text that is wrong", () -> {
            PlateTown x = town();
            Due.wrongTown(x, "rate 21", 5);
            throwOften(x);
            Due.is("fault", 5, x.fault());
            Due.tell(x, "");
            throwOften(x);
            Due.is("fault of a right text", -1, x.fault());
        });
    }
}
