import java.io.IOException;
import java.nio.file.Files;
import java.nio.file.Path;
import java.util.HashMap;
import java.util.Map;
import java.util.regex.Matcher;
import java.util.regex.Pattern;

/** The example in README.md: each call answers what stands behind it. */
public final class ReadmeTest {
    private static final Pattern CALL =
            Pattern.compile("(?:\\w+ (\\w+) = )?x\\.(\\w+)\\((.*?)\\); +// (\\S+): .*");

    public static void main(String[] args) throws IOException {
        CutSheets x = new CutSheets();
        Map<String, String> named = new HashMap<>();
        int calls = 0;
        for (String line : Files.readAllLines(Path.of("README.md"))) {
            Matcher found = CALL.matcher(line);
            if (found.matches()) {
                String call = found.group(2) + " " + numbers(found.group(3), named);
                String got = Calls.answer(x, call.trim());
                Calls.due("README.md", line, got, found.group(4));
                named.put(found.group(1), got);
                calls++;
            } else {
                Calls.due("README.md", line, line.contains("x.") ? "not understood" : "no call", "no call");
            }
        }
        Calls.due("README.md", "calls in its example", calls > 0 ? "some" : "none", "some");
        Calls.end();
    }

    /** What is given to a call, with answers in the place of the names that they were given. */
    private static String numbers(String given, Map<String, String> named) {
        StringBuilder all = new StringBuilder();
        for (String word : given.split(", ")) {
            all.append(named.getOrDefault(word, word)).append(' ');
        }
        return all.toString();
    }
}
