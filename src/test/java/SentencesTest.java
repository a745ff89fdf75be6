import java.io.IOException;
import java.lang.reflect.Method;
import java.nio.file.Files;
import java.nio.file.Path;
import java.util.regex.Matcher;
import java.util.regex.Pattern;

/** The tests that SENTENCES.md names for the document's boundary cases are there. */
final class SentencesTest {
    private static final Path SENTENCES = Path.of("src", "test", "SENTENCES.md");
    private static final Pattern TEST = Pattern.compile("`(\\w+Test)\\.(\\w+)`");

    private SentencesTest() {
    }

    public static void main(String[] args) throws IOException {
        int named = 0;
        Matcher test = TEST.matcher(Files.readString(SENTENCES));
        while (test.find()) {
            named++;
            if (!isThere(test.group(1), test.group(2))) {
                Check.fail("SENTENCES.md names " + test.group() + ", which is not there");
            }
        }
        Check.due("SENTENCES.md names tests", named > 100 ? 1 : 0, 1);
        Check.end();
    }

    private static boolean isThere(String type, String method) {
        try {
            for (Method one : Class.forName(type).getDeclaredMethods()) {
                if (one.getName().equals(method)) {
                    return true;
                }
            }
        } catch (ClassNotFoundException e) {
            return false;
        }
        return false;
    }
}
