import java.lang.reflect.InvocationTargetException;
import java.lang.reflect.Method;
import java.lang.reflect.Modifier;
import java.util.ArrayList;
import java.util.Arrays;
import java.util.Comparator;
import java.util.List;
import java.util.Random;

/** Long runs of drawn calls: the program must answer what the model answers, the exceptions too. */
public final class ModelTest {
    private static final int RUNS = 150;
    private static final int CALLS = 480;
    private static final int ODD = 12;

    private final Random random;
    private final PlateTown program = new PlateTown();
    private final Model model = new Model();
    private final List<String> history = new ArrayList<>();
    private final int houseLimit;

    private ModelTest(int seed) {
        random = new Random(seed);
        houseLimit = 2 + random.nextInt(9);
    }

    public static void main(String[] args) throws Exception {
        int first = args.length > 0 ? Integer.parseInt(args[0]) : 1;
        int runs = args.length > 1 ? Integer.parseInt(args[1]) : RUNS;
        List<Method> face = new ArrayList<>();
        for (Method method : PlateTown.class.getDeclaredMethods()) {
            if (Modifier.isPublic(method.getModifiers())) {
                face.add(method);
            }
        }
        face.sort(Comparator.comparing(Method::getName));
        for (int seed = first; seed < first + runs; seed++) {
            if (!new ModelTest(seed).run(face)) {
                System.out.println("seed " + seed);
                System.exit(1);
            }
        }
    }

    private boolean run(List<Method> face) throws Exception {
        for (int texts = 0; texts < 4; texts++) {
            if (!type(townText(true)) || !call(PlateTown.class.getMethod("town"))) {
                return false;
            }
        }
        while (history.size() < CALLS) {
            int kind = random.nextInt(100);
            boolean same;
            if (kind < 5) {
                same = type(townText(false)) && call(PlateTown.class.getMethod("town"))
                        && call(PlateTown.class.getMethod("fault"));
            } else if (kind < 11) {
                same = type(spoiltSometimes(leaseText())) && call(PlateTown.class.getMethod("lease"))
                        && call(PlateTown.class.getMethod("fault"));
            } else if (kind < 15) {
                same = type(spoiltSometimes(walkText()))
                        && call(PlateTown.class.getMethod("walk", int.class, int.class))
                        && call(PlateTown.class.getMethod("fault"));
            } else {
                same = call(face.get(random.nextInt(face.size())));
            }
            if (!same) {
                return false;
            }
        }
        return true;
    }

    // ---- calls ----

    private boolean call(Method method) throws Exception {
        Object[] args = new Object[method.getParameterCount()];
        for (int i = 0; i < args.length; i++) {
            args[i] = method.getParameterTypes()[i] == boolean.class ? (Object) random.nextBoolean()
                    : (Object) number(method.getName(), i);
        }
        for (int i = 1; i < args.length; i++) {
            boolean areYears = " light let promise lost takes gable wants ".contains(" " + method.getName() + " ")
                    && i == args.length - 1;
            if (areYears && random.nextInt(6) > 0 && (int) args[i] < (int) args[i - 1]) {
                Object first = args[i];
                args[i] = args[i - 1];
                args[i - 1] = first;
            }
        }
        return call(method, args);
    }

    private boolean call(Method method, Object... args) throws Exception {
        String call = method.getName() + Arrays.toString(args);
        String want = answer(model, method, args);
        String got = answer(program, method, args);
        history.add(call + " -> " + got);
        if (want.equals(got)) {
            return true;
        }
        history.forEach(System.out::println);
        System.out.println("due is " + want);
        return false;
    }

    private static String answer(Object object, Method method, Object[] args) throws Exception {
        Method own = object.getClass().getMethod(method.getName(), method.getParameterTypes());
        try {
            return String.valueOf(own.invoke(object, args));
        } catch (InvocationTargetException e) {
            return e.getCause().getClass().getName();
        }
    }

    private int number(String method, int place) {
        if (random.nextInt(ODD * 3) == 0) {
            int[] odd = {-1, -2, Integer.MAX_VALUE, Integer.MIN_VALUE, 1000, 100, 81, 20, 13, 10, 8, 7, 16, 6, 30};
            return odd[random.nextInt(odd.length)];
        }
        int houses = Math.max(1, model.count(0));
        int windows = Math.max(1, model.count(1));
        int year = random.nextInt(3) == 0 ? random.nextInt(100) : random.nextInt(12);
        switch (method + place) {
            case "feed0", "feed1", "feed2", "feed3", "feed4", "blow0":
                return random.nextInt();
            case "end0":
                return random.nextInt(60);
            case "look0", "bright0", "rent1", "let1", "build0", "lost0", "takes0", "gable0", "wants0", "good0",
                    "good1":
                return random.nextInt(houses);
            case "lit0", "light0", "promise0", "lost2", "gable1", "paper0", "push0":
                return random.nextInt(windows);
            case "look1", "houses1", "swaps1":
                return random.nextInt(5) - random.nextInt(2);
            case "rope1":
                return random.nextInt(23) - 1;
            case "lit1", "paper1":
                return random.nextInt(13);
            case "rent0", "let0":
                return random.nextInt(Math.max(1, model.count(2)));
            case "due0":
                return random.nextInt(Math.max(1, model.count(4)));
            case "broken0":
                return random.nextInt(Math.max(1, model.count(5)));
            case "runs0", "uphill0":
                return random.nextInt(Math.max(1, model.count(6)));
            case "level0", "drain0", "drain1", "pool0", "walk0":
                return random.nextInt(81);
            case "name0":
                return random.nextInt(8);
            case "build1", "lost1", "takes1":
                return 1 + random.nextInt(random.nextInt(4) == 0 ? 31 : 6);
            case "swaps0":
                return random.nextInt(houses + 1) - 1;
            case "years0":
                return random.nextInt(30) - 1;
            case "count0":
                return random.nextInt(12) - 1;
            default:
                return year;
        }
    }

    private boolean type(String text) throws Exception {
        if (!call(PlateTown.class.getMethod("end", int.class), 0)) {
            return false;
        }
        Method feed = PlateTown.class.getMethod("feed", int.class, int.class, int.class, int.class, int.class);
        String cut = text.length() > 400 ? text.substring(0, 400) : text;
        for (int from = 0; from < cut.length(); from += 20) {
            Object[] numbers = {0, 0, 0, 0, 0};
            for (int i = 0; i < 20 && from + i < cut.length(); i++) {
                numbers[i / 4] = (int) numbers[i / 4] | cut.charAt(from + i) << 24 - 8 * (i % 4);
            }
            if (!call(feed, numbers)) {
                return false;
            }
        }
        return call(PlateTown.class.getMethod("end", int.class), cut.length());
    }

    // ---- texts ----

    private String pick(String... words) {
        return words[random.nextInt(words.length)];
    }

    private String upTo(int n) {
        return String.valueOf(random.nextInt(n + 1));
    }

    private String joined(List<String> things) {
        StringBuilder text = new StringBuilder();
        for (int i = 0; i < things.size(); i++) {
            boolean needed = i > 0 && Character.isLetterOrDigit(things.get(i).charAt(0))
                    && Character.isLetterOrDigit(things.get(i - 1).charAt(0));
            if (needed || random.nextInt(9) == 0) {
                text.append(' ');
            }
            text.append(things.get(i));
        }
        return text.toString();
    }

    private String lines(int count, java.util.function.Consumer<List<String>> line) {
        List<String> things = new ArrayList<>();
        for (int i = 0; i < count; i++) {
            if (i > 0) {
                things.add(";");
            }
            line.accept(things);
        }
        return joined(things);
    }

    private int lineCount() {
        return random.nextInt(25) == 0 ? 11 + random.nextInt(3) : random.nextInt(6);
    }

    private String townText(boolean atFirst) {
        String text = lines(atFirst ? 6 : lineCount(), this::townLine);
        return atFirst ? text : spoiltSometimes(text);
    }

    private void townLine(List<String> things) {
        int houses = model.count(0);
        int kind = random.nextInt(12);
        if (kind < 5 && houses < houseLimit || houses == 0 && kind < 8) {
            String cell = random.nextBoolean() ? upTo(80) : String.valueOf(9 * (3 + random.nextInt(3)) + 3 + random.nextInt(3));
            things.addAll(List.of("house", cell, String.valueOf(1 + random.nextInt(random.nextBoolean() ? 30 : 9))));
        } else if (kind < 8) {
            String up = upTo(random.nextBoolean() ? 29 : 2);
            things.addAll(List.of("window", upTo(Math.max(0, houses - 1)), upTo(7), up));
        } else if (kind < 10) {
            String word = pick("start", "rate", "rate", "rate", "bar", "sea", "gusts");
            things.addAll(List.of(word, upTo(word.equals("rate") ? 20 : 95)));
        } else {
            int from = random.nextInt(100);
            String to = String.valueOf(from + random.nextInt(100 - from));
            things.addAll(List.of(pick("wind", "calm"), String.valueOf(from), to, upTo(20)));
        }
    }

    private String leaseText() {
        return lines(lineCount(), things -> {
            String word = pick("pay", "pay", "pay", "less", "pay", "less", "pay", "void");
            things.add(word);
            if (!word.equals("void")) {
                things.add(upTo(pick("9", "99", "999").equals("9") ? 9 : 999));
                if (random.nextBoolean()) {
                    things.addAll(List.of("*", fact()));
                }
            }
            if (random.nextInt(3) > 0) {
                things.add("if");
                condition(things, random.nextInt(40) == 0 ? 6 : 3);
            }
        });
    }

    private String fact() {
        return pick("year", "light", "height", "turn", "level");
    }

    private void condition(List<String> things, int deep) {
        atom(things, deep);
        for (int i = random.nextInt(3); i > 0; i--) {
            things.add(pick("and", "or"));
            atom(things, deep);
        }
    }

    private void atom(List<String> things, int deep) {
        int kind = random.nextInt(8);
        if (kind == 0 && deep > 0) {
            things.add("(");
            condition(things, deep - 1);
            things.add(")");
        } else if (kind < 3 && deep > 0) {
            things.add("not");
            atom(things, deep - 1);
        } else if (kind < 5) {
            things.add(pick("noon", "frost", "windy"));
        } else {
            sum(things);
            things.add(pick("<", ">"));
            sum(things);
        }
    }

    private void sum(List<String> things) {
        for (int i = random.nextInt(3); i >= 0; i--) {
            things.add(random.nextBoolean() ? fact() : upTo(60));
            if (i > 0) {
                things.add("+");
            }
        }
    }

    private String walkText() {
        return lines(lineCount(),
                things -> things.addAll(List.of("go", upTo(random.nextInt(5) == 0 ? 99 : 2),
                        pick("north", "east", "south", "west"))));
    }

    private String spoiltSometimes(String text) {
        if (random.nextInt(3) > 0 || text.isEmpty()) {
            return text;
        }
        int at = random.nextInt(text.length());
        if (random.nextInt(3) == 0) {
            return text.substring(0, at);
        }
        String put = pick("", " ", ";", "(", "not ", "x", "0", "99", "if", ")", "+", "and noon", "\u00e9", "\0", "A");
        int behind = Math.min(text.length(), at + random.nextInt(3));
        return text.substring(0, at) + put + text.substring(behind);
    }
}
