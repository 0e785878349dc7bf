import java.nio.file.Files;
import java.nio.file.Path;
import java.util.TreeSet;
import java.util.regex.Matcher;
import java.util.regex.Pattern;

/** What README.md shows is so: each call in it answers the number that stands behind it. */
public final class ReadmeTest {
    private static final Pattern NEW = Pattern.compile("^LogLetters river = new LogLetters\\(\\);$");
    private static final Pattern CALL = Pattern.compile("^river\\.(\\w+)\\(([^)]*)\\);\\s*// (-?\\d+)(:.*)?$");
    private static final Due d = new Due();

    public static void main(String[] args) throws Exception {
        LogLetters river = null;
        boolean isExample = false;
        String readme = Files.readString(Path.of("README.md"));
        for (String line : readme.split("\n")) {
            if (line.startsWith("```")) {
                isExample = line.equals("```java");
            } else if (isExample && NEW.matcher(line).find()) {
                river = new LogLetters();
            } else if (isExample) {
                example(river, line);
            }
        }
        everyCallIsNamed(readme);
        d.end();
    }

    private static void example(LogLetters river, String line) {
        d.about("README.md");
        Matcher m = CALL.matcher(line);
        boolean isCall = m.find() && river != null;
        d.due("a call with its answer: " + line, isCall ? 1 : 0, 1);
        if (isCall) {
            d.due(line, Calls.call(river, m.group(1), numbers(m.group(2))), Integer.parseInt(m.group(3)));
        }
    }

    private static int[] numbers(String row) {
        if (row.isBlank()) {
            return new int[0];
        }
        String[] parts = row.split(",");
        int[] numbers = new int[parts.length];
        for (int i = 0; i < parts.length; i++) {
            numbers[i] = Integer.decode(parts[i].trim());
        }
        return numbers;
    }

    private static void everyCallIsNamed(String readme) {
        d.about("README.md says how to use the class");
        TreeSet<String> words = new TreeSet<>();
        Matcher m = Pattern.compile("river\\.(\\w+)\\(|`(\\w+)`").matcher(readme);
        while (m.find()) {
            words.add(m.group(1) != null ? m.group(1) : m.group(2));
        }
        for (String name : Calls.names()) {
            d.due(name + " is named", words.contains(name) ? 1 : 0, 1);
        }
    }
}
