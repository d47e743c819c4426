import java.util.function.ToIntFunction;

/** Answers are of the town as it is now, whichever call comes first behind a change; and to the last of 512 calls. */
public final class EdgeNowTest {
    public static void main(String[] args) {
        behindTexts();
        behindBuilding();
        behindOthers();
        longUse();
        Due.close();
    }

    /** A town by ANGLE 0, then by 48: what faced the sun faces away from it. */
    private static PlateTown town() {
        PlateTown x = Due.town("rate 0;house 40 5;house 39 6;house 42 30;window 0 4 0;window 1 0 0");
        Due.lease(x, "pay 1*light;pay 100*turn");
        x.let(0, 0, 0, 0);
        x.promise(0, 3, 9);
        x.drain(40, 31);
        x.paper(0, 6, true);
        Due.is("angle", 0, x.angle(0));
        return x;
    }

    private static void now(String call, int before, int behind, ToIntFunction<PlateTown> asked) {
        Due.edge("answers are of the town as it is now: " + call, () -> {
            PlateTown x = town();
            Due.is(call, before, asked.applyAsInt(x));
            x.angle(0);
            Due.tell(x, "start 48");
            Due.is(call + " behind a text", behind, asked.applyAsInt(x));
            PlateTown y = town();
            y.image();
            Due.tell(y, "start 48");
            Due.is(call + " behind a text, and THE IMAGE kept", behind, asked.applyAsInt(y));
            y.back();
            Due.is(call + " behind back", before, asked.applyAsInt(y));
        });
    }

    private static void behindTexts() {
        now("angle", 0, 48, x -> x.angle(99));
        now("lit", 1, 0, x -> x.lit(0, 6, 0) ? 1 : 0);
        now("light", 9, 0, x -> x.light(0, 5, 5));
        now("bright", 9, 0, x -> x.bright(0, 0));
        now("houses in FROST", 0b110, 0b101, x -> x.houses(0, 0));
        now("houses that are WINDY", 0b110, 0b100, x -> x.houses(0, 1));
        now("houses with NOON", 0b001, 0b010, x -> x.houses(0, 2));
        now("rent", 9, 4800, x -> x.rent(0, 0, 0));
        now("due", 9, 4800, x -> x.due(0));
        now("broken", -1, 3, x -> x.broken(0));
        now("level", -4, 4, x -> x.level(0, 0));
        now("runs", 1, 0, x -> x.runs(0, 0) ? 1 : 0);
        now("uphill", 0, 100, x -> x.uphill(0, false));
        now("pool", 4, 76, x -> x.pool(40, 0));
        now("name", 0, 4, x -> x.name(0, 0, false));
        now("walk", 49, 31, x -> Due.walk(x, "go 1 north", 40, 0));
        now("good", 900, 0, x -> x.good(0, 0));
        now("swaps", 900, 900, x -> x.swaps(-1, 1));
        now("left", 0b110, 0b101, x -> x.left());
        now("years", 100, 0, x -> x.years(-1));
        now("push", 0, 32, x -> x.push(0, 0, 1));
        now("move", 0, 0, x -> x.move());
        now("stop", 0, 0, x -> x.stop());
    }

    private static void built(String call, int before, int behind, ToIntFunction<PlateTown> asked) {
        Due.edge("answers are of HEIGHTS as they are now: " + call, () -> {
            PlateTown x = Due.town("rate 1;house 40 5;house 31 6;house 1 28;window 0 4 0");
            Due.is(call, before, asked.applyAsInt(x));
            x.build(1, 2);
            Due.is(call + " built", behind, asked.applyAsInt(x));
            x.undo();
            Due.is(call + " undone", before, asked.applyAsInt(x));
        });
    }

    private static void behindBuilding() {
        built("angle", 3, 0, x -> x.angle(99));
        built("stop", 99, 0, x -> x.stop());
        built("lit", 1, 0, x -> x.lit(0, 6, 0) ? 1 : 0);
        built("light", 9, 6, x -> x.light(0, 0, 0));
        built("bright", 9, 6, x -> x.bright(0, 0));
        built("houses with NOON", 1, 0, x -> x.houses(0, 2));
        built("houses with NOON, of old", 1, 0, x -> x.houses(1, 2));
        built("gable", 0, 22, x -> x.gable(1, 0, 0, 0));
        built("takes", 1, 0, x -> x.takes(1, 1, 0, 0));
        built("push to the sun beside the HOUSE", 0, 7, x -> x.push(0, 0, 1));
        built("name until", 5, 99, x -> x.name(0, 0, true));
        built("level", -4, -4, x -> x.level(0, 6));
        built("LOAD", 0, 1, x -> x.count(9));
    }

    private static void behindOthers() {
        Due.edge("answers are of ROPES as they are now", () -> {
            PlateTown x = Due.town("rate 0;house 40 5;window 0 4 0");
            Due.is("left", 0, x.left());
            x.rope(0, 20);
            Due.is("angle", 20, x.angle(1));
            x.rope(0, 0);
            Due.is("bright", 9, x.bright(0, 1));
            x.rope(0, 20);
            Due.is("stop", 1, x.stop());
        });
        Due.edge("answers are of WIND as it blows now", () -> {
            PlateTown x = Due.town("rate 5");
            x.blow(0);
            Due.is("angle", 0, x.angle(1));
            x.blow(1);
            Due.is("angle by another SEED", 8, x.angle(1));
        });
    }

    /** An object is used for at most 512 calls. */
    private static void longUse() {
        Due.edge("An object is used for at most 512 calls: the last ones are as due", () -> {
            PlateTown x = new PlateTown();
            x.feed('h' << 24 | 'o' << 16 | 'u' << 8 | 's', 'e' << 24 | ' ' << 16 | '5' << 8 | ' ', '1' << 24, 0, 0);
            x.end(9);
            x.town();
            x.image();
            for (int i = 0; i < 100; i++) {
                x.feed('p' << 24 | 'a' << 16 | 'y' << 8 | ' ', (char) ('0' + i % 10) << 24, 0, 0, 0);
                x.end(5);
                Due.is("lease " + i, 0, x.lease());
                Due.is("rent " + i, i % 10, x.rent(0, 0, i));
                x.back();
            }
            for (int i = 0; i < 6; i++) {
                x.build(0, 1);
            }
            Due.is("call 511", 7, x.look(0, 1));
            Due.is("call 512", 6, x.count(8));
        });
    }
}
