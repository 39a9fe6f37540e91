import java.util.ArrayList;
import java.util.List;
import java.util.NoSuchElementException;
import java.util.regex.Pattern;

/** The document written a second time, in another way than the program: lists, and a pattern for the text. */
final class Model {
    static final String[] NAMES = {"unit", "rule", "own", "sign", "read", "may", "together", "mark", "asked", "never",
        "order", "told", "about", "count"};
    static final int UNIT = 0;
    static final int RULE = 1;
    static final int OWN = 2;
    static final int SIGN = 3;
    static final int READ = 4;
    static final int MAY = 5;
    static final int TOGETHER = 6;
    static final int MARK = 7;
    static final int ASKED = 8;
    static final int NEVER = 9;
    static final int ORDER = 10;
    static final int TOLD = 11;
    static final int ABOUT = 12;
    static final int COUNT = 13;

    private static final Pattern TEXT =
        Pattern.compile("([NA] [0-7] [0-7]\n|B [0-7] ([0-9]|[1-9][0-9])\n|L [0-7] [0-9]\n)*");
    private static final String[] WAYS_ON = {"", "\n", "0\n", " 0\n", "0 0\n", " 0 0\n"};
    private static final List<Integer> MARKS = List.of(1, 2, 4, 8, 16);

    private static final class Rule {
        final int number;
        final int row;
        final int a;
        final int b;
        int refusals;

        Rule(int number, int row, int a, int b) {
            this.number = number;
            this.row = row;
            this.a = a;
            this.b = b;
        }
    }

    private interface Refusal {
        /** null: the rule is not asked. */
        Boolean by(Rule rule);
    }

    private final List<int[]> units = new ArrayList<>();
    private final List<Rule> rules = new ArrayList<>();
    private final List<Rule> inOrder = new ArrayList<>();
    private final List<Integer> askedRow = new ArrayList<>();
    private String text = "";
    private int verdicts;
    private int refused;

    int unitCount() {
        return units.size();
    }

    int ruleCount() {
        return rules.size();
    }

    int answer(int[] c) {
        switch (c[0]) {
            case UNIT: return unit(c[1], c[2], c[3]);
            case RULE: return rule(c[1], c[2], c[3]);
            case OWN: return own(c[1], c[2]);
            case SIGN: return sign(c[1]);
            case READ: return read();
            case MAY: return may(c[1], c[2], c[3]);
            case TOGETHER: return together(c[1], c[2]);
            case MARK: return mark(c[1], c[2]);
            case ASKED: return c[1] >= 0 && c[1] < askedRow.size() ? askedRow.get(c[1]) : -1;
            case NEVER: return never(c[1]);
            case ORDER: return order(c[1], c[2]);
            case TOLD: return told(c[1], c[2]);
            case ABOUT: return about(c[1], c[2]);
            default: return count(c[1]);
        }
    }

    private static void range(int number, int from, int to) {
        if (number < from || number > to) {
            throw new IllegalArgumentException();
        }
    }

    private void unitsExist(int... numbers) {
        for (int number : numbers) {
            if (number < 0 || number >= units.size()) {
                throw new NoSuchElementException();
            }
        }
    }

    private Rule ruleOf(int number) {
        return rules.stream().filter(r -> r.number == number).findFirst().orElseThrow(NoSuchElementException::new);
    }

    private int unit(int kind, int weight, int marks) {
        range(kind, 0, 7);
        range(weight, 0, 1000);
        range(marks, 0, 31);
        if (units.size() == 10) {
            throw new UnsupportedOperationException();
        }
        for (int m : MARKS) {
            int by = (marks & m) == 0 ? 0 : ask(needs(m, marks));
            if (by != 0) {
                askedRow.clear();
                return -1 - by;
            }
        }
        askedRow.clear();
        units.add(new int[] {kind, weight, marks});
        return units.size() - 1;
    }

    private int rule(int row, int a, int b) {
        range(row, 0, 4);
        if (row == 4) {
            if (!MARKS.contains(a) || !MARKS.contains(b) || a == b) {
                throw new IllegalArgumentException();
            }
        } else {
            range(a, 0, 7);
            range(b, 0, new int[] {7, 7, 99, 9}[row]);
        }
        return newRule(row, a, b);
    }

    private int own(int does, int fails) {
        range(does, 0, 3);
        return newRule(5, does, fails);
    }

    private int newRule(int row, int a, int b) {
        if (rules.size() == 12) {
            throw new UnsupportedOperationException();
        }
        Rule rule = new Rule(rules.size() + 1, row, a, b);
        rules.add(rule);
        inOrder.add(rule);
        return rule.number;
    }

    private int sign(int c) {
        if (c != 10) {
            range(c, 32, 126);
        }
        if (text.length() == 200) {
            throw new UnsupportedOperationException();
        }
        text += (char) c;
        return 0;
    }

    private int read() {
        String whole = text;
        text = "";
        if (!TEXT.matcher(whole).matches()) {
            return -1 - wrongPlace(whole);
        }
        String[] lines = whole.isEmpty() ? new String[0] : whole.split("\n");
        if (rules.size() + lines.length > 12) {
            throw new UnsupportedOperationException();
        }
        for (String line : lines) {
            String[] parts = line.split(" ");
            newRule("NABL".indexOf(parts[0]), Integer.parseInt(parts[1]), Integer.parseInt(parts[2]));
        }
        return rules.size();
    }

    private static int wrongPlace(String whole) {
        for (int end = 1; end <= whole.length(); end++) {
            if (!goesOn(whole.substring(0, end))) {
                return end - 1;
            }
        }
        return whole.length();
    }

    private static boolean goesOn(String start) {
        for (String way : WAYS_ON) {
            if (TEXT.matcher(start + way).matches()) {
                return true;
            }
        }
        return false;
    }

    private int may(int below, int above, int place) {
        unitsExist(below, above);
        range(place, 0, 9);
        if (below == above) {
            throw new IllegalStateException();
        }
        int[] low = units.get(below);
        int[] high = units.get(above);
        return verdict(r -> {
            boolean otherKind = low[0] != high[0];
            switch (r.row) {
                case 0: return high[0] == r.a && low[0] == r.b;
                case 2: return low[0] == r.a && high[1] > 10 * r.b;
                case 3: return high[0] == r.a && place >= r.b;
                case 5:
                    if (r.a == 2) {
                        return null;
                    }
                    return r.b == 1 || r.a == 0 && (low[2] & 1) != 0 || r.a == 1 && (high[2] & 2) != 0 && place > 0
                        || r.a == 3 && (low[2] & 4) != 0 && otherKind;
                default: return null;
            }
        });
    }

    private int together(int unit, int other) {
        unitsExist(unit, other);
        if (unit == other) {
            throw new IllegalStateException();
        }
        int[] one = units.get(unit);
        int[] two = units.get(other);
        return verdict(r -> {
            if (r.row == 1) {
                return List.of(one[0], two[0]).equals(List.of(r.a, r.b))
                    || List.of(two[0], one[0]).equals(List.of(r.a, r.b));
            }
            if (r.row == 5 && r.a == 2) {
                return r.b == 1 || ((one[2] | two[2]) & 8) != 0 && one[0] != two[0];
            }
            return null;
        });
    }

    private int mark(int unit, int m) {
        unitsExist(unit);
        if (!MARKS.contains(m)) {
            throw new IllegalArgumentException();
        }
        int[] marked = units.get(unit);
        if ((marked[2] & m) != 0) {
            throw new IllegalStateException();
        }
        int by = verdict(needs(m, marked[2]));
        marked[2] += by == 0 ? m : 0;
        return by;
    }

    private static Refusal needs(int m, int others) {
        return r -> r.row == 4 ? (Boolean) (r.a == m && (others & r.b) == 0) : null;
    }

    private int verdict(Refusal refusal) {
        int by = ask(refusal);
        verdicts++;
        refused += by == 0 ? 0 : 1;
        return by;
    }

    private int ask(Refusal refusal) {
        askedRow.clear();
        for (Rule rule : inOrder) {
            Boolean refuses = refusal.by(rule);
            if (refuses != null) {
                askedRow.add(rule.number);
                if (refuses) {
                    rule.refusals++;
                    return rule.number;
                }
            }
        }
        return 0;
    }

    private int never(int i) {
        range(i, 0, Integer.MAX_VALUE);
        return rules.stream().filter(r -> r.refusals == 0).skip(i).map(r -> r.number).findFirst().orElse(-1);
    }

    private int order(int number, int place) {
        Rule rule = ruleOf(number);
        range(place, 0, rules.size() - 1);
        int was = inOrder.indexOf(rule);
        inOrder.remove(was);
        inOrder.add(place, rule);
        return was;
    }

    private int told(int number, int what) {
        Rule rule = ruleOf(number);
        range(what, 0, 4);
        return new int[] {rule.row, rule.a, rule.b, inOrder.indexOf(rule), rule.refusals}[what];
    }

    private int about(int unit, int what) {
        unitsExist(unit);
        range(what, 0, 2);
        return units.get(unit)[what];
    }

    private int count(int what) {
        int[] counts = {units.size(), rules.size(), text.length(), verdicts, refused};
        return what >= 0 && what <= 4 ? counts[what] : -1;
    }
}
