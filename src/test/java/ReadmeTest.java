import java.io.IOException;
import java.nio.file.Files;
import java.nio.file.Path;
import java.util.LinkedHashMap;
import java.util.Map;
import java.util.regex.Matcher;
import java.util.regex.Pattern;

/** The example of README.md answers what its comments say; .ci/run starts the tests where README.md lies. */
public final class ReadmeTest {
    private static final Pattern TEXT = Pattern.compile("String text = \"(.*)\";.*");
    private static final Pattern CALL = Pattern.compile("(?:int (\\w+) = )?x\\.(\\w+)\\((.*)\\); +// (-?\\d+).*");

    public static void main(String[] args) throws IOException {
        Check check = new Check("README.md");
        String readme = Files.readString(Path.of("README.md"));
        int start = readme.indexOf("```java\n");
        int end = readme.indexOf("```", start + 1);
        check.compare("has an example", "true", String.valueOf(start >= 0 && end > start));
        String script = start >= 0 && end > start ? scriptOf(readme.substring(start, end)) : "count(0) = 0\n";
        for (String name : new String[] {"write ", "read(", "own(", "rule(", "unit(", "may(", "together(", "mark("}) {
            check.compare("the example has " + name, "true", String.valueOf(script.contains(name)));
        }
        Script.run(check, "the example", script);
        check.end();
    }

    /** The example's lines as Script takes them, with the numbers in place of the units' names. */
    private static String scriptOf(String example) {
        Map<String, String> numbers = new LinkedHashMap<>();
        StringBuilder script = new StringBuilder();
        for (String line : example.split("\n")) {
            Matcher text = TEXT.matcher(line);
            Matcher call = CALL.matcher(line);
            if (text.matches()) {
                script.append("write \"").append(text.group(1).replace("\\n", "|")).append("\"\n");
            } else if (call.matches()) {
                script.append(call.group(2)).append('(').append(inNumbers(call.group(3), numbers)).append(") = ")
                    .append(call.group(4)).append('\n');
                if (call.group(1) != null) {
                    numbers.put(call.group(1), call.group(4));
                }
            }
        }
        return script.toString();
    }

    private static String inNumbers(String arguments, Map<String, String> numbers) {
        String told = arguments;
        for (Map.Entry<String, String> unit : numbers.entrySet()) {
            told = told.replaceAll("\\b" + unit.getKey() + "\\b", unit.getValue());
        }
        return told;
    }
}
