import java.io.ByteArrayOutputStream;
import java.io.IOException;
import java.io.PrintStream;
import java.lang.reflect.Method;
import java.lang.reflect.Modifier;
import java.nio.charset.StandardCharsets;
import java.nio.file.Files;
import java.nio.file.Path;
import java.util.List;
import java.util.regex.Pattern;
import java.util.stream.Collectors;
import java.util.stream.Stream;

/** README.md tells what is so. Run in the project's folder. */
public final class ReadmeTest {
    private static final Path TESTS = Path.of("src", "test", "java");
    private static final Pattern TEST = Pattern.compile("`(\\w+Test)`");
    private static final String FENCE = "```";

    public static void main(String[] args) throws IOException {
        String page = Files.readString(Path.of("README.md"));
        Due.is("the program that is shown", Files.readString(TESTS.resolve("TownTour.java")), block(page, "java"));
        Due.is("what it prints", printed(), block(page, "text"));
        calls(page);
        tests(page);
        Due.close();
    }

    /** The text between the first fence of this kind and the next fence. */
    private static String block(String page, String kind) {
        String opening = FENCE + kind + "\n";
        int from = page.indexOf(opening);
        int to = from < 0 ? -1 : page.indexOf(FENCE, from + opening.length());
        return to < 0 ? "" : page.substring(from + opening.length(), to);
    }

    private static String printed() {
        PrintStream before = System.out;
        ByteArrayOutputStream bytes = new ByteArrayOutputStream();
        System.setOut(new PrintStream(bytes, true, StandardCharsets.UTF_8));
        try {
            TownTour.main(new String[0]);
        } finally {
            System.setOut(before);
        }
        return bytes.toString(StandardCharsets.UTF_8).replace(System.lineSeparator(), "\n");
    }

    private static void calls(String page) {
        List<String> rows = page.lines().filter(line -> line.startsWith("| ")).collect(Collectors.toList());
        for (Method method : PlateTown.class.getDeclaredMethods()) {
            if (Modifier.isPublic(method.getModifiers())) {
                long found = rows.stream().filter(row -> shows(row, method)).count();
                Due.is("rows that show " + method.getName(), 1, found);
            }
        }
    }

    /** With as many arguments as it takes. */
    private static boolean shows(String row, Method method) {
        int from = row.indexOf('`' + method.getName() + '(');
        if (from < 0) {
            return false;
        }
        String given = row.substring(row.indexOf('(', from) + 1, row.indexOf(')', from));
        return (given.isEmpty() ? 0 : given.split(", ").length) == method.getParameterCount();
    }

    private static void tests(String page) throws IOException {
        List<String> told = TEST.matcher(page).results().map(found -> found.group(1)).sorted().distinct()
                .collect(Collectors.toList());
        try (Stream<Path> files = Files.list(TESTS)) {
            List<String> there = files.map(file -> file.getFileName().toString())
                    .filter(name -> name.endsWith("Test.java")).map(name -> name.replace(".java", "")).sorted()
                    .collect(Collectors.toList());
            Due.is("the tests that README tells of", there.toString(), told.toString());
        }
    }
}
