import java.util.function.IntConsumer;

/** What the tests share: what is due, what is refused, and texts for the TAPE. */
final class Due {
    private static int wrong = 0;
    private static String sentence = "";

    private Due() {
    }

    /** The test of one sentence of the document: what fails in it is told under the sentence. */
    static void edge(String told, Runnable test) {
        sentence = "[" + told + "] ";
        try {
            test.run();
        } catch (RuntimeException e) {
            tell("threw " + e);
        }
        sentence = "";
    }

    private static void tell(String what) {
        wrong++;
        System.out.println(sentence + what);
    }

    static void is(String call, long want, long got) {
        if (want != got) {
            tell(call + " answered " + got + ", due is " + want);
        }
    }

    static void is(String call, String want, String got) {
        if (!want.equals(got)) {
            tell(call + ": " + got + ", due is " + want);
        }
    }

    static void is(String call, boolean want, boolean got) {
        is(call, want ? 1 : 0, got ? 1 : 0);
    }

    static void outside(String call, Runnable run) {
        refused(call, IndexOutOfBoundsException.class, run);
    }

    static void illegal(String call, Runnable run) {
        refused(call, IllegalArgumentException.class, run);
    }

    static void full(String call, Runnable run) {
        refused(call, UnsupportedOperationException.class, run);
    }

    static void another(String call, Runnable run) {
        refused(call, java.util.NoSuchElementException.class, run);
    }

    /** Of numbers from 0 on there are so many: the first and the last are there, and none beside them. */
    static void bounds(String call, int count, IntConsumer run) {
        for (int number : new int[] {0, count - 1}) {
            refused(call + " of " + number, null, () -> run.accept(number));
        }
        noSuch(call, count, run);
    }

    static void noSuch(String call, int count, IntConsumer run) {
        for (int number : new int[] {-1, count, Integer.MIN_VALUE, Integer.MAX_VALUE}) {
            outside(call + " of " + number, () -> run.accept(number));
        }
    }

    /** YEARS from .. to: both must be there, and the second not below the first. */
    static void span(String call, Span run) {
        refused(call + " of all YEARS", null, () -> run.of(0, 99));
        refused(call + " of the last YEAR", null, () -> run.of(99, 99));
        refused(call + " of the first YEAR", null, () -> run.of(0, 0));
        noSuch(call + " from", 100, from -> run.of(from, 99));
        noSuch(call + " to", 100, to -> run.of(0, to));
        illegal(call + " from 1 to 0", () -> run.of(1, 0));
        illegal(call + " from 99 to 98", () -> run.of(99, 98));
        illegal(call + " from 99 to 0", () -> run.of(99, 0));
    }

    interface Span {
        void of(int from, int to);
    }

    private static void refused(String call, Class<?> want, Runnable run) {
        Class<?> got = null;
        try {
            run.run();
        } catch (RuntimeException e) {
            got = e.getClass();
        }
        if (got != want) {
            tell(call + " threw " + got + ", due is " + want);
        }
    }

    /** What is done in a town leaves all that the town answers as it was. */
    static void keeps(PlateTown x, String call, Runnable done) {
        String before = State.of(x);
        done.run();
        is("the town behind " + call, before, State.of(x));
    }

    /** Puts a text on the TAPE, which must be empty. */
    static void type(PlateTown x, String text) {
        for (int from = 0; from < text.length(); from += 20) {
            int[] numbers = new int[5];
            for (int i = 0; i < 20; i++) {
                int sign = from + i < text.length() ? text.charAt(from + i) : 0;
                numbers[i / 4] |= sign << 24 - 8 * (i % 4);
            }
            x.feed(numbers[0], numbers[1], numbers[2], numbers[3], numbers[4]);
        }
        x.end(text.length());
    }

    static int tell(PlateTown x, String text) {
        type(x, text);
        return x.town();
    }

    static int lease(PlateTown x, String text) {
        type(x, text);
        return x.lease();
    }

    static int walk(PlateTown x, String text, int cell, int year) {
        type(x, text);
        return x.walk(cell, year);
    }

    static PlateTown town(String... texts) {
        PlateTown x = new PlateTown();
        for (String text : texts) {
            tell(x, text);
        }
        return x;
    }

    static void wrongTown(PlateTown x, String text, int fault) {
        type(x, text);
        illegal("town '" + text + "'", x::town);
        is("fault of town '" + text + "'", fault, x.fault());
    }

    static void wrongLease(PlateTown x, String text, int fault) {
        type(x, text);
        illegal("lease '" + text + "'", x::lease);
        is("fault of lease '" + text + "'", fault, x.fault());
    }

    static void wrongWalk(PlateTown x, String text, int fault) {
        type(x, text);
        illegal("walk '" + text + "'", () -> x.walk(40, 0));
        is("fault of walk '" + text + "'", fault, x.fault());
    }

    static void close() {
        if (wrong != 0) {
            System.out.println(wrong + " answers are not as due");
            System.exit(1);
        }
    }
}
