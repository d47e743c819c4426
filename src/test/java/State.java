/** What a town answers, written as one text; nothing in the town is changed by asking. */
final class State {
    private static final int[] SOME_YEARS = {0, 1, 2, 5, 10, 48, 99};

    private State() {
    }

    static String of(PlateTown x) {
        StringBuilder state = new StringBuilder();
        for (int what = 0; what <= 9; what++) {
            put(state, what == 0 ? "counts" : "", x.count(what));
        }
        plate(x, state);
        houses(x, state);
        papers(x, state);
        return state.toString();
    }

    private static void put(StringBuilder state, String name, int value) {
        state.append(name).append(' ').append(value);
    }

    private static void plate(PlateTown x, StringBuilder state) {
        for (int year : SOME_YEARS) {
            put(state, "; year " + year + ": angle", x.angle(year));
            int ropes = x.rope(year, 0);
            x.rope(year, ropes);
            put(state, ", ropes", ropes);
        }
        put(state, "; levels", x.level(0, 0));
        put(state, "", x.level(8, 0));
        put(state, "; windy", x.houses(0, 1));
        put(state, "; left", x.left());
    }

    private static void houses(PlateTown x, StringBuilder state) {
        for (int house = 0; house < x.count(0); house++) {
            for (int what = 0; what <= 3; what++) {
                put(state, what == 0 ? "; house" : "", x.look(house, what));
            }
            put(state, ", good", x.good(house, house));
        }
        for (int window = 0; window < x.count(1); window++) {
            put(state, window == 0 ? "; lights" : "", x.light(window, 0, 0));
        }
    }

    private static void papers(PlateTown x, StringBuilder state) {
        for (int let = 0; let < x.count(4); let++) {
            put(state, let == 0 ? "; dues" : "", x.due(let));
        }
        for (int promise = 0; promise < x.count(5); promise++) {
            put(state, promise == 0 ? "; broken" : "", x.broken(promise));
        }
        put(state, "; twice", x.twice());
        for (int drain = 0; drain < x.count(6); drain++) {
            put(state, drain == 0 ? "; uphill" : "", x.uphill(drain, true));
        }
        put(state, "; years", x.years(-1));
    }
}
