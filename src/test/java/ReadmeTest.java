import java.io.ByteArrayOutputStream;
import java.io.IOException;
import java.io.PrintStream;
import java.nio.charset.StandardCharsets;
import java.nio.file.Files;
import java.nio.file.Path;
import java.util.List;
import java.util.TreeSet;
import java.util.regex.Matcher;
import java.util.regex.Pattern;
import java.util.stream.Collectors;
import java.util.stream.Stream;

/** README.md shows the program Harvest as it is, with what it prints, and names each test. */
final class ReadmeTest {
    private static final Path TESTS = Path.of("src", "test", "java");

    private ReadmeTest() {
    }

    public static void main(String[] args) throws IOException {
        String readme = Files.readString(Path.of("README.md"));
        programIsShown(readme);
        outputIsShown(readme);
        testsAreNamed(readme);
        Check.end();
    }

    private static String block(String readme, String language) {
        Matcher block = Pattern.compile("```" + language + "\\n(.*?)```", Pattern.DOTALL).matcher(readme);
        return block.find() ? block.group(1) : "";
    }

    private static void programIsShown(String readme) throws IOException {
        if (!block(readme, "java").equals(Files.readString(TESTS.resolve("Harvest.java")))) {
            Check.fail("README.md does not show Harvest.java as it is");
        }
    }

    private static void outputIsShown(String readme) {
        PrintStream usual = System.out;
        ByteArrayOutputStream printed = new ByteArrayOutputStream();
        System.setOut(new PrintStream(printed, true, StandardCharsets.UTF_8));
        Harvest.main(new String[0]);
        System.setOut(usual);
        List<String> shown = block(readme, "text").lines().collect(Collectors.toList());
        List<String> due = printed.toString(StandardCharsets.UTF_8).lines().collect(Collectors.toList());
        if (!shown.equals(due)) {
            Check.fail("README.md shows " + shown + ", Harvest prints " + due);
        }
    }

    private static void testsAreNamed(String readme) throws IOException {
        TreeSet<String> named = new TreeSet<String>();
        Matcher name = Pattern.compile("`(\\w+Test)`").matcher(readme);
        while (name.find()) {
            named.add(name.group(1));
        }
        TreeSet<String> there = new TreeSet<String>();
        try (Stream<Path> files = Files.list(TESTS)) {
            files.map(file -> file.getFileName().toString()).filter(file -> file.endsWith("Test.java"))
                    .forEach(file -> there.add(file.substring(0, file.length() - ".java".length())));
        }
        if (!named.equals(there)) {
            Check.fail("README.md names the tests " + named + ", there are " + there);
        }
    }
}
