import java.util.ArrayList;
import java.util.List;
import java.util.NoSuchElementException;
import java.util.regex.Matcher;
import java.util.regex.Pattern;

/**
 * The document a second time, written from its words alone and without a thought for speed: ModelTest holds the
 * program against it.
 */
public final class Model {
    private static final int NONE = -1;

    private static final class Wrong extends RuntimeException {
        private static final long serialVersionUID = 1;
        final int at;

        Wrong(int at) {
            this.at = at;
        }
    }

    private record Window(int house, int d, int up) { }

    private record Let(int lease, int house, int from, int to) { }

    private record Vow(int window, int from, int to) { }

    private record Drain(int from, int to) { }

    private record Paper(int window, int hour, boolean lit) { }

    private record Building(int house, int more) { }

    private interface Sum {
        int of(Model m, int house, int year);
    }

    private interface Condition {
        boolean of(Model m, int house, int year);
    }

    private record Clause(String word, Sum amount, Condition condition) { }

    private static final class State {
        List<Integer> cells = new ArrayList<>();
        List<Integer> heights = new ArrayList<>();
        List<Window> windows = new ArrayList<>();
        int start = 0;
        int rate = 3;
        int bar = NONE;
        int sea = 48;
        int gusts = 72;
        int[] wind = new int[100];
        int[] ropes = new int[100];
        List<List<Clause>> leases = new ArrayList<>();
        List<Let> lets = new ArrayList<>();
        List<Vow> vows = new ArrayList<>();
        List<Drain> drains = new ArrayList<>();
        List<Paper> papers = new ArrayList<>();
        List<Building> buildings = new ArrayList<>();
        List<Integer> homes = new ArrayList<>();
        List<int[]> wishes = new ArrayList<>();
        int texts = 0;

        State copy() {
            State s = new State();
            s.cells.addAll(cells);
            s.heights.addAll(heights);
            s.windows.addAll(windows);
            s.start = start;
            s.rate = rate;
            s.bar = bar;
            s.sea = sea;
            s.gusts = gusts;
            s.wind = wind.clone();
            s.ropes = ropes.clone();
            s.leases.addAll(leases);
            s.lets.addAll(lets);
            s.vows.addAll(vows);
            s.drains.addAll(drains);
            s.papers.addAll(papers);
            s.buildings.addAll(buildings);
            s.homes.addAll(homes);
            for (int[] wish : wishes) {
                s.wishes.add(wish.clone());
            }
            s.texts = texts;
            return s;
        }
    }

    private State s = new State();
    private State kept = null;
    private String tape = "";
    private int fault = NONE;

    // ---- texts ----

    private static final class Scanner {
        private static final Pattern THING = Pattern.compile("\\G( *)([a-z]+|[0-9]+|[^ ])", Pattern.DOTALL);
        final String text;
        String thing;
        int at;
        private int behind = 0;

        Scanner(String text) {
            this.text = text;
            next();
        }

        void next() {
            Matcher m = THING.matcher(text);
            if (m.find(behind)) {
                thing = m.group(2);
                at = m.start(2);
                behind = m.end();
            } else {
                thing = "";
                at = text.length();
            }
        }

        boolean is(String what) {
            return thing.equals(what);
        }

        boolean got(String what) {
            boolean is = is(what);
            if (is) {
                next();
            }
            return is;
        }

        void need(String what) {
            if (!got(what)) {
                throw new Wrong(at);
            }
        }

        boolean isNumber() {
            return thing.matches("[0-9]+");
        }

        int number(int low, int high) {
            if (!thing.matches("[0-9]{1,3}")) {
                throw new Wrong(at);
            }
            int n = Integer.parseInt(thing);
            if (n < low || n > high) {
                throw new Wrong(at);
            }
            next();
            return n;
        }

        void lines(Runnable line) {
            if (thing.isEmpty()) {
                return;
            }
            for (int i = 1;; i++) {
                if (i > 12) {
                    throw new Wrong(at);
                }
                line.run();
                if (thing.isEmpty()) {
                    return;
                }
                need(";");
            }
        }
    }

    private String take() {
        String text = tape;
        tape = "";
        return text;
    }

    private void readTownLine(Scanner in, State t) {
        String word = in.thing;
        switch (word) {
            case "house" -> {
                if (t.cells.size() == 10) {
                    throw new Wrong(in.at);
                }
                in.next();
                int at = in.at;
                int cell = in.number(0, 80);
                if (t.cells.contains(cell)) {
                    throw new Wrong(at);
                }
                int height = in.number(1, 30);
                t.homes.add(t.cells.size());
                t.wishes.add(new int[] {0, 99});
                t.cells.add(cell);
                t.heights.add(height);
            }
            case "window" -> {
                if (t.windows.size() == 20) {
                    throw new Wrong(in.at);
                }
                in.next();
                int house = in.number(0, t.cells.size() - 1);
                int d = in.number(0, 7);
                t.windows.add(new Window(house, d, in.number(0, 29)));
            }
            case "start" -> {
                in.next();
                t.start = in.number(0, 95);
            }
            case "rate" -> {
                in.next();
                t.rate = in.number(0, 20);
            }
            case "bar" -> {
                in.next();
                t.bar = in.number(0, 95);
            }
            case "sea" -> {
                in.next();
                t.sea = in.number(0, 95);
            }
            case "gusts" -> {
                in.next();
                t.gusts = in.number(0, 95);
            }
            case "wind", "calm" -> {
                in.next();
                int from = in.number(0, 99);
                int to = in.number(from, 99);
                int n = in.number(0, 20);
                for (int y = from; y <= to; y++) {
                    t.wind[y] = word.equals("wind") ? n : -n;
                }
            }
            default -> throw new Wrong(in.at);
        }
    }

    private static Sum fact(Scanner in) {
        String word = in.thing;
        Sum sum = switch (word) {
            case "year" -> (m, h, y) -> y;
            case "light" -> (m, h, y) -> m.lightOf(h, y);
            case "height" -> (m, h, y) -> m.s.heights.get(h);
            case "turn" -> (m, h, y) -> m.angleOf(y);
            case "level" -> (m, h, y) -> m.levelOf(m.s.cells.get(h), y) + 8;
            default -> throw new Wrong(in.at);
        };
        in.next();
        return sum;
    }

    private static Sum part(Scanner in) {
        if (in.isNumber()) {
            int n = in.number(0, 999);
            return (m, h, y) -> n;
        }
        return fact(in);
    }

    private static Sum sum(Scanner in) {
        Sum sum = part(in);
        while (in.got("+")) {
            Sum first = sum;
            Sum second = part(in);
            sum = (m, h, y) -> first.of(m, h, y) + second.of(m, h, y);
        }
        return sum;
    }

    private static Condition atom(Scanner in, int deep) {
        if (in.is("not") || in.is("(")) {
            if (deep == 6) {
                throw new Wrong(in.at);
            }
            if (in.got("not")) {
                Condition inner = atom(in, deep + 1);
                return (m, h, y) -> !inner.of(m, h, y);
            }
            in.next();
            Condition inner = any(in, deep + 1);
            in.need(")");
            return inner;
        }
        if (in.got("noon")) {
            return (m, h, y) -> m.noonOf(h, y);
        }
        if (in.got("frost")) {
            return (m, h, y) -> m.lightOf(h, y) == 0;
        }
        if (in.got("windy")) {
            return (m, h, y) -> m.windyOf(h, y);
        }
        Sum first = sum(in);
        if (in.got("<")) {
            Sum second = sum(in);
            return (m, h, y) -> first.of(m, h, y) < second.of(m, h, y);
        }
        in.need(">");
        Sum second = sum(in);
        return (m, h, y) -> first.of(m, h, y) > second.of(m, h, y);
    }

    private static Condition all(Scanner in, int deep) {
        Condition result = atom(in, deep);
        while (in.got("and")) {
            Condition first = result;
            Condition second = atom(in, deep);
            result = (m, h, y) -> first.of(m, h, y) && second.of(m, h, y);
        }
        return result;
    }

    private static Condition any(Scanner in, int deep) {
        Condition result = all(in, deep);
        while (in.got("or")) {
            Condition first = result;
            Condition second = all(in, deep);
            result = (m, h, y) -> first.of(m, h, y) || second.of(m, h, y);
        }
        return result;
    }

    private static Clause clause(Scanner in) {
        String word = in.thing;
        Sum amount = (m, h, y) -> 0;
        if (in.got("pay") || in.got("less")) {
            int n = in.number(0, 999);
            amount = (m, h, y) -> n;
            if (in.got("*")) {
                Sum fact = fact(in);
                amount = (m, h, y) -> n * fact.of(m, h, y);
            }
        } else {
            in.need("void");
        }
        Condition condition = in.got("if") ? any(in, 0) : (m, h, y) -> true;
        return new Clause(word, amount, condition);
    }

    private void read(Runnable reading) {
        try {
            reading.run();
            fault = NONE;
        } catch (Wrong wrong) {
            fault = wrong.at;
            throw new IllegalArgumentException();
        }
    }

    // ---- what the document tells of years ----

    private static final int[] DX = {0, 1, 1, 1, 0, -1, -1, -1};
    private static final int[] DY = {1, 1, 0, -1, -1, -1, 0, 1};

    private static int mod(int a, int b) {
        return (a % b + b) % b;
    }

    private int loadOf() {
        return s.heights.stream().mapToInt(h -> h).sum() / 40;
    }

    private int angleOf(int year) {
        int a = s.start;
        int load = loadOf();
        for (int y = 0; y < year; y++) {
            int turn = s.rate + s.wind[y] + s.ropes[y] - load;
            turn = turn < 0 ? 0 : turn > 48 ? 48 : turn;
            boolean stands = false;
            for (int ahead = 0; ahead <= turn; ahead++) {
                stands |= s.bar == (a + ahead) % 96;
            }
            a = stands ? s.bar : (a + turn) % 96;
        }
        return a;
    }

    private int directionOf(int p, int angle) {
        return (mod(p - angle, 96) + 6) / 12 % 8;
    }

    private int houseOn(int x, int y) {
        return x < 0 || y < 0 || x > 8 || y > 8 ? NONE : s.cells.indexOf(9 * y + x);
    }

    private boolean litAt(int window, int hour, int angle) {
        Window w = s.windows.get(window);
        int sun = directionOf(24 + 4 * hour, angle);
        if (sun != w.d && sun != (w.d + 1) % 8 && sun != (w.d + 7) % 8) {
            return false;
        }
        int high = 1 + Math.min(hour, 12 - hour);
        int cell = s.cells.get(w.house);
        for (int k = 1; k <= 8; k++) {
            int house = houseOn(cell % 9 + k * DX[sun], cell / 9 + k * DY[sun]);
            if (house != NONE && s.heights.get(house) - w.up > k * high) {
                return false;
            }
        }
        return true;
    }

    private int lightAt(int window, int angle) {
        int n = 0;
        for (int hour = 0; hour <= 12; hour++) {
            n += litAt(window, hour, angle) ? 1 : 0;
        }
        return n;
    }

    private int lightOf(int house, int year) {
        int n = 0;
        for (int w = 0; w < s.windows.size(); w++) {
            n += s.windows.get(w).house == house ? lightAt(w, angleOf(year)) : 0;
        }
        return n;
    }

    private boolean noonOf(int house, int year) {
        for (int w = 0; w < s.windows.size(); w++) {
            if (s.windows.get(w).house == house && litAt(w, 6, angleOf(year))) {
                return true;
            }
        }
        return false;
    }

    private boolean windyOf(int house, int year) {
        int d = directionOf(s.gusts, angleOf(year));
        int cell = s.cells.get(house);
        for (int k = 1; k <= 3; k++) {
            int other = houseOn(cell % 9 + k * DX[d], cell / 9 + k * DY[d]);
            if (other != NONE && s.heights.get(other) >= s.heights.get(house)) {
                return false;
            }
        }
        return true;
    }

    private int levelOf(int cell, int year) {
        int d = directionOf(s.sea, angleOf(year));
        return 0 - ((cell % 9 - 4) * DX[d] + (cell / 9 - 4) * DY[d]);
    }

    private int rentOf(int lease, int house, int year) {
        int sum = 0;
        for (Clause c : s.leases.get(lease)) {
            if (!c.condition.of(this, house, year)) {
                continue;
            }
            if (c.word.equals("void")) {
                return 0;
            }
            sum += (c.word.equals("pay") ? 1 : -1) * c.amount.of(this, house, year);
        }
        return Math.max(sum, 0);
    }

    private int goodOf(int family, int house) {
        int n = 0;
        for (int y = s.wishes.get(family)[0]; y <= s.wishes.get(family)[1]; y++) {
            n += lightOf(house, y);
        }
        return n;
    }

    // ---- checks ----

    private static void there(boolean is) {
        if (!is) {
            throw new IndexOutOfBoundsException();
        }
    }

    private static void in(int n, int size) {
        there(n >= 0 && n < size);
    }

    private static void span(int from, int to) {
        in(from, 100);
        in(to, 100);
        legal(to >= from);
    }

    private static void legal(boolean is) {
        if (!is) {
            throw new IllegalArgumentException();
        }
    }

    private static void room(boolean is) {
        if (!is) {
            throw new UnsupportedOperationException();
        }
    }

    private static void known(boolean is) {
        if (!is) {
            throw new NoSuchElementException();
        }
    }

    private void higher(int house, int more) {
        legal(more >= 1 && more <= 29 && s.heights.get(house) + more <= 30);
    }

    // ---- the face ----

    public int feed(int a, int b, int c, int d, int e) {
        if (tape.length() + 20 > 400) {
            return NONE;
        }
        for (int n : new int[] {a, b, c, d, e}) {
            tape += (char) (n >> 24 & 255);
            tape += (char) (n >> 16 & 255);
            tape += (char) (n >> 8 & 255);
            tape += (char) (n & 255);
        }
        return tape.length();
    }

    public boolean end(int n) {
        if (n < 0 || n > tape.length()) {
            return false;
        }
        tape = tape.substring(0, n);
        return true;
    }

    public int town() {
        String text = take();
        State t = s.copy();
        read(() -> {
            Scanner in = new Scanner(text);
            in.lines(() -> readTownLine(in, t));
        });
        room(s.texts < 12);
        t.texts++;
        s = t;
        return s.texts;
    }

    public int lease() {
        String text = take();
        List<Clause> clauses = new ArrayList<>();
        read(() -> {
            Scanner in = new Scanner(text);
            in.lines(() -> clauses.add(clause(in)));
        });
        room(s.leases.size() < 6);
        s.leases.add(clauses);
        return s.leases.size() - 1;
    }

    public int fault() {
        return fault;
    }

    public int look(int house, int what) {
        in(house, s.cells.size());
        known(what >= 0 && what <= 3);
        return switch (what) {
            case 0 -> s.cells.get(house);
            case 1 -> s.heights.get(house);
            case 2 -> (int) s.windows.stream().filter(w -> w.house == house).count();
            default -> s.homes.indexOf(house);
        };
    }

    public int angle(int year) {
        in(year, 100);
        return angleOf(year);
    }

    public int stop() {
        int stop = 99;
        int last = angleOf(99);
        for (int y = 98; y >= 0; y--) {
            if (angleOf(y) != last) {
                return stop;
            }
            stop = y;
        }
        return stop;
    }

    public int rope(int year, int n) {
        in(year, 100);
        legal(n >= 0 && n <= 20);
        int before = s.ropes[year];
        s.ropes[year] = n;
        return before;
    }

    public boolean lit(int window, int hour, int year) {
        in(window, s.windows.size());
        in(hour, 13);
        in(year, 100);
        return litAt(window, hour, angleOf(year));
    }

    public int light(int window, int from, int to) {
        in(window, s.windows.size());
        span(from, to);
        int n = 0;
        for (int y = from; y <= to; y++) {
            n += lightAt(window, angleOf(y));
        }
        return n;
    }

    public int bright(int house, int year) {
        in(house, s.cells.size());
        in(year, 100);
        return lightOf(house, year);
    }

    public int houses(int year, int what) {
        in(year, 100);
        known(what >= 0 && what <= 2);
        int bits = 0;
        for (int h = 0; h < s.cells.size(); h++) {
            boolean is = what == 0 ? lightOf(h, year) == 0 : what == 1 ? windyOf(h, year) : noonOf(h, year);
            bits += is ? 1 << h : 0;
        }
        return bits;
    }

    public int rent(int lease, int house, int year) {
        in(lease, s.leases.size());
        in(house, s.cells.size());
        in(year, 100);
        return rentOf(lease, house, year);
    }

    public int let(int lease, int house, int from, int to) {
        in(lease, s.leases.size());
        in(house, s.cells.size());
        span(from, to);
        room(s.lets.size() < 16);
        s.lets.add(new Let(lease, house, from, to));
        return s.lets.size() - 1;
    }

    public int due(int let) {
        in(let, s.lets.size());
        Let l = s.lets.get(let);
        int n = 0;
        for (int y = l.from; y <= l.to; y++) {
            n += rentOf(l.lease, l.house, y);
        }
        return n;
    }

    public int promise(int window, int from, int to) {
        in(window, s.windows.size());
        span(from, to);
        room(s.vows.size() < 16);
        s.vows.add(new Vow(window, from, to));
        return s.vows.size() - 1;
    }

    public int broken(int promise) {
        in(promise, s.vows.size());
        Vow v = s.vows.get(promise);
        for (int y = v.from; y <= v.to; y++) {
            if (!litAt(v.window, 6, angleOf(y))) {
                return y;
            }
        }
        return NONE;
    }

    public int twice() {
        int ordered = 0;
        for (Vow a : s.vows) {
            for (Vow b : s.vows) {
                ordered += a != b && meet(a, b) ? 1 : 0;
            }
        }
        return ordered / 2;
    }

    private boolean meet(Vow a, Vow b) {
        boolean common = false;
        for (int y = 0; y < 100; y++) {
            common |= a.from <= y && y <= a.to && b.from <= y && y <= b.to;
        }
        return common && s.windows.get(a.window).house == s.windows.get(b.window).house;
    }

    public int level(int cell, int year) {
        in(cell, 81);
        in(year, 100);
        return levelOf(cell, year);
    }

    public int drain(int from, int to) {
        in(from, 81);
        in(to, 81);
        legal(from != to);
        room(s.drains.size() < 8);
        s.drains.add(new Drain(from, to));
        return s.drains.size() - 1;
    }

    public boolean runs(int drain, int year) {
        in(drain, s.drains.size());
        in(year, 100);
        return levelOf(s.drains.get(drain).to, year) < levelOf(s.drains.get(drain).from, year);
    }

    public int uphill(int drain, boolean first) {
        in(drain, s.drains.size());
        int best = 0;
        int begin = NONE;
        for (int from = 0; from < 100; from++) {
            int to = from;
            while (to < 100 && !runs(drain, to)) {
                to++;
            }
            if (to - from > best) {
                best = to - from;
                begin = from;
            }
        }
        return first ? begin : best;
    }

    public int pool(int cell, int year) {
        in(cell, 81);
        in(year, 100);
        int d = directionOf(s.sea, angleOf(year));
        int x = cell % 9;
        int y = cell / 9;
        while (x + DX[d] >= 0 && x + DX[d] <= 8 && y + DY[d] >= 0 && y + DY[d] <= 8
                && houseOn(x + DX[d], y + DY[d]) == NONE) {
            x += DX[d];
            y += DY[d];
        }
        return 9 * y + x;
    }

    public int name(int direction, int year, boolean until) {
        in(direction, 8);
        in(year, 100);
        int called = (12 * direction + angleOf(year) + 6) / 12 % 8;
        if (!until) {
            return called;
        }
        for (int y = year + 1; y < 100; y++) {
            if ((12 * direction + angleOf(y) + 6) / 12 % 8 != called) {
                return y - 1;
            }
        }
        return 99;
    }

    public int walk(int cell, int year) {
        String text = take();
        in(cell, 81);
        in(year, 100);
        int[] at = {cell % 9, cell / 9, 0};
        read(() -> {
            Scanner in = new Scanner(text);
            in.lines(() -> {
                in.need("go");
                int n = in.number(0, 99);
                int word = List.of("north", "east", "south", "west").indexOf(in.thing);
                if (word < 0) {
                    throw new Wrong(in.at);
                }
                in.next();
                int d = directionOf(24 * word, angleOf(year));
                at[0] += n * DX[d];
                at[1] += n * DY[d];
                at[2] |= at[0] < 0 || at[0] > 8 || at[1] < 0 || at[1] > 8 ? 1 : 0;
            });
        });
        return at[2] == 1 ? NONE : 9 * at[1] + at[0];
    }

    public int build(int house, int more) {
        in(house, s.cells.size());
        higher(house, more);
        s.heights.set(house, s.heights.get(house) + more);
        s.buildings.add(new Building(house, more));
        if (s.buildings.size() > 20) {
            s.buildings.remove(0);
        }
        return s.heights.get(house);
    }

    public int undo() {
        if (s.buildings.isEmpty()) {
            return NONE;
        }
        Building b = s.buildings.remove(s.buildings.size() - 1);
        s.heights.set(b.house, s.heights.get(b.house) - b.more);
        return b.house;
    }

    private int lostOf(int house, int more, int window, int from, int to) {
        int n = 0;
        for (int y = from; y <= to; y++) {
            int angle = angleOf(y);
            int before = lightAt(window, angle);
            int height = s.heights.get(house);
            s.heights.set(house, height + more);
            n += before - lightAt(window, angle);
            s.heights.set(house, height);
        }
        return n;
    }

    public int lost(int house, int more, int window, int from, int to) {
        in(house, s.cells.size());
        in(window, s.windows.size());
        span(from, to);
        higher(house, more);
        return lostOf(house, more, window, from, to);
    }

    public int takes(int house, int more, int from, int to) {
        in(house, s.cells.size());
        span(from, to);
        higher(house, more);
        int bits = 0;
        for (int w = 0; w < s.windows.size(); w++) {
            bits |= lostOf(house, more, w, from, to) != 0 ? 1 << w : 0;
        }
        return bits;
    }

    public int gable(int house, int window, int from, int to) {
        in(house, s.cells.size());
        in(window, s.windows.size());
        span(from, to);
        for (int more = 30 - s.heights.get(house);; more--) {
            if (lostOf(house, more, window, from, to) == 0) {
                return more;
            }
        }
    }

    public void wants(int family, int from, int to) {
        in(family, s.cells.size());
        span(from, to);
        s.wishes.set(family, new int[] {from, to});
    }

    public int good(int family, int house) {
        in(family, s.cells.size());
        in(house, s.cells.size());
        return goodOf(family, house);
    }

    private List<List<Integer>> orders(int n) {
        List<List<Integer>> all = new ArrayList<>();
        all.add(List.of());
        for (int i = 0; i < n; i++) {
            List<List<Integer>> longer = new ArrayList<>();
            for (List<Integer> order : all) {
                for (int h = 0; h < n; h++) {
                    if (!order.contains(h)) {
                        List<Integer> next = new ArrayList<>(order);
                        next.add(h);
                        longer.add(next);
                    }
                }
            }
            all = longer;
        }
        return all;
    }

    private int ways;
    private int most;
    private List<Integer> best;

    private void search() {
        int n = s.cells.size();
        int[][] light = new int[n][100];
        int[][] good = new int[n][n];
        for (int h = 0; h < n; h++) {
            for (int y = 0; y < 100; y++) {
                light[h][y] = lightOf(h, y);
            }
            for (int f = 0; f < n; f++) {
                for (int y = s.wishes.get(f)[0]; y <= s.wishes.get(f)[1]; y++) {
                    good[f][h] += light[h][y];
                }
            }
        }
        ways = 0;
        most = 0;
        best = null;
        for (List<Integer> order : orders(n)) {
            boolean fair = true;
            int sum = 0;
            for (int f = 0; f < n; f++) {
                fair &= good[f][order.get(f)] >= good[f][s.homes.get(f)];
                sum += good[f][order.get(f)];
            }
            if (fair) {
                ways++;
                if (best == null || sum > most) {
                    most = sum;
                    best = order;
                }
            }
        }
    }

    public int swaps(int family, int what) {
        there(family == NONE || family >= 0 && family < s.cells.size());
        known(what == 0 || what == 1);
        if (s.cells.size() > 7) {
            return -3;
        }
        search();
        return family != NONE ? best.get(family) : what == 0 ? ways : most;
    }

    public int move() {
        if (s.cells.size() > 7) {
            return -3;
        }
        search();
        int n = 0;
        for (int f = 0; f < s.cells.size(); f++) {
            n += s.homes.get(f).equals(best.get(f)) ? 0 : 1;
        }
        s.homes = new ArrayList<>(best);
        return n;
    }

    public int left() {
        return houses(stop(), 0);
    }

    public int paper(int window, int hour, boolean lit) {
        in(window, s.windows.size());
        in(hour, 13);
        room(s.papers.size() < 16);
        s.papers.add(new Paper(window, hour, lit));
        return s.papers.size();
    }

    public int years(int k) {
        legal(k >= NONE);
        List<Integer> fit = new ArrayList<>();
        for (int y = 0; y < 100; y++) {
            int angle = angleOf(y);
            if (s.papers.stream().allMatch(p -> litAt(p.window, p.hour, angle) == p.lit)) {
                fit.add(y);
            }
        }
        return k == NONE ? fit.size() : k < fit.size() ? fit.get(k) : NONE;
    }

    public int push(int window, int year, int other) {
        in(window, s.windows.size());
        in(year, 100);
        in(other, 100);
        int before = s.ropes[year];
        try {
            for (int n = 0; n <= 48; n++) {
                s.ropes[year] = before + n;
                if (litAt(window, 6, angleOf(other))) {
                    return n;
                }
            }
            return NONE;
        } finally {
            s.ropes[year] = before;
        }
    }

    public int blow(int seed) {
        int sum = 0;
        for (int y = 0; y < 100; y++) {
            seed = (int) (1103515245L * seed + 12345L);
            s.wind[y] = (seed >> 16 & 32767) % 11 - 5;
            sum += s.wind[y];
        }
        return sum;
    }

    public void image() {
        kept = s.copy();
    }

    public boolean back() {
        if (kept == null) {
            return false;
        }
        s = kept.copy();
        return true;
    }

    public int count(int what) {
        return switch (what) {
            case 0 -> s.cells.size();
            case 1 -> s.windows.size();
            case 2 -> s.leases.size();
            case 3 -> s.texts;
            case 4 -> s.lets.size();
            case 5 -> s.vows.size();
            case 6 -> s.drains.size();
            case 7 -> s.papers.size();
            case 8 -> s.buildings.size();
            case 9 -> loadOf();
            default -> NONE;
        };
    }
}
