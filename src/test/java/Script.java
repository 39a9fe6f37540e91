import java.util.ArrayList;
import java.util.List;
import java.util.regex.Matcher;
import java.util.regex.Pattern;

/**
 * A run of calls on a new object, told as a text, a line for each call with the answer that is due:
 *
 * <pre>
 *   10 times unit(0, 0, 0)
 *   unit(0, 0, 0) = UnsupportedOperationException
 *   write "N 1 2|"
 *   read() = 1
 * </pre>
 *
 * The ends of int are written min and max, a line's end in what is written is |, and void answers 0. A line without a
 * due answer may answer any number, but not throw.
 *
 * Each run is made a second time without the calls that are questions and without those that are refused: what the two
 * objects tell of themselves at the end must be the same, as no such call changes anything.
 */
final class Script {
    // The document promises nothing of an object's later calls.
    private static final int MOST_CALLS = 512;
    private static final Pattern LINE =
        Pattern.compile("(?:(\\d+) times )?(?:(\\w+)\\((.*)\\)|write \"(.*)\")(?: = (\\S+))?");
    private static final List<String> QUESTIONS = List.of("asked", "never", "told", "about", "count");

    private final FragileRules x = new FragileRules();
    private int calls = 0;

    private Script() {
    }

    static void run(Check check, String sentence, String lines) {
        Script whole = new Script();
        Script answered = new Script();
        for (String line : lines.split("\n")) {
            Matcher parts = LINE.matcher(line.trim());
            if (!parts.matches()) {
                throw new AssertionError("no such line: " + line);
            }
            int times = parts.group(1) == null ? 1 : Integer.parseInt(parts.group(1));
            for (int i = 0; i < times; i++) {
                String got = whole.follow(parts);
                if (parts.group(5) != null) {
                    check.compare("'" + sentence + "': " + line.trim(), parts.group(5), got);
                } else if (got.endsWith("Exception")) {
                    check.compare("'" + sentence + "': " + line.trim(), "a number", got);
                }
                if (changes(parts)) {
                    answered.follow(parts);
                }
            }
        }
        check.compare("'" + sentence + "': the object at the end", answered.state(), whole.state());
        check.compare("'" + sentence + "': at most 512 calls", "true", String.valueOf(whole.calls <= MOST_CALLS));
    }

    /** Whether the call of a line may change the object: a read() that is refused still drops its signs. */
    private static boolean changes(Matcher line) {
        String name = String.valueOf(line.group(2));
        boolean refused = line.group(5) != null && line.group(5).endsWith("Exception");
        return name.equals("read") || !refused && !QUESTIONS.contains(name);
    }

    private String follow(Matcher line) {
        if (line.group(4) != null) {
            return write(line.group(4).replace('|', '\n'));
        }
        List<Integer> numbers = new ArrayList<>();
        for (String word : line.group(3).split(", ")) {
            numbers.add(numberOf(word));
        }
        return call(line.group(2), numbers);
    }

    private static int numberOf(String word) {
        switch (word) {
            case "": return 0;
            case "min": return Integer.MIN_VALUE;
            case "max": return Integer.MAX_VALUE;
            case "false": return 0;
            case "true": return 1;
            default: return Integer.parseInt(word);
        }
    }

    private String write(String text) {
        String answer = "0";
        for (int i = 0; i < text.length() && answer.equals("0"); i++) {
            answer = call("sign", List.of((int) text.charAt(i)));
        }
        return answer;
    }

    private String call(String name, List<Integer> n) {
        calls++;
        String outcome = Check.outcome(() -> answer(name, n));
        return outcome.startsWith("throws.") ? outcome.substring(7) : outcome;
    }

    private int answer(String name, List<Integer> n) {
        switch (name) {
            case "unit": return x.unit(n.get(0), n.get(1), n.get(2));
            case "rule": return x.rule(n.get(0), n.get(1), n.get(2));
            case "own": return x.own(n.get(0), n.get(1) == 1);
            case "sign": x.sign(n.get(0)); return 0;
            case "read": return x.read();
            case "may": return x.may(n.get(0), n.get(1), n.get(2));
            case "together": return x.together(n.get(0), n.get(1));
            case "mark": return x.mark(n.get(0), n.get(1));
            case "asked": return x.asked(n.get(0));
            case "never": return x.never(n.get(0));
            case "order": return x.order(n.get(0), n.get(1));
            case "told": return x.told(n.get(0), n.get(1));
            case "about": return x.about(n.get(0), n.get(1));
            case "count": return x.count(n.get(0));
            default: throw new AssertionError("no such call: " + name);
        }
    }

    /** All that the object tells of itself; the signs that wait are told by reading them, at the end. */
    private String state() {
        StringBuilder told = new StringBuilder();
        row(told, "count", "", 5);
        row(told, "asked", "", 13);
        row(told, "never", "", 13);
        int units = counted(0);
        for (int unit = 0; unit < units; unit++) {
            row(told, "about", String.valueOf(unit), 3);
        }
        int rules = counted(1);
        tellRules(told, 1, rules);
        told.append("read ").append(call("read", List.of())).append("; ");
        tellRules(told, rules + 1, counted(1));
        return told.toString();
    }

    private int counted(int what) {
        return Integer.parseInt(call("count", List.of(what)));
    }

    private void tellRules(StringBuilder told, int from, int to) {
        for (int rule = from; rule <= to; rule++) {
            row(told, "told", String.valueOf(rule), 5);
        }
    }

    private void row(StringBuilder told, String name, String of, int length) {
        told.append(name).append(' ').append(of).append(':');
        for (int i = 0; i < length; i++) {
            List<Integer> numbers = of.isEmpty() ? List.of(i) : List.of(Integer.parseInt(of), i);
            told.append(' ').append(call(name, numbers));
        }
        told.append("; ");
    }
}
