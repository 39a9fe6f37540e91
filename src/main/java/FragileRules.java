import java.util.NoSuchElementException;

public final class FragileRules {
    private static final int MAX_UNITS = 10;
    private static final int MAX_RULES = 12;
    private static final int MAX_SIGNS = 200;
    private static final int MAX_KIND = 7;
    private static final int MAX_WEIGHT = 1000;
    private static final int MAX_PLACE = 9;
    private static final int MAX_BEARS = 99;
    private static final int WEIGHT_STEP = 10;

    private static final int FRAGILE = 1;
    private static final int UPRIGHT = 2;
    private static final int COLD = 4;
    private static final int DANGEROUS = 8;
    private static final int PAPERS = 16;
    private static final int ALL_MARKS = 31;

    private static final int NEVER_ABOVE = 0;
    private static final int APART = 1;
    private static final int BEARS = 2;
    private static final int BELOW = 3;
    private static final int NEEDS = 4;
    private static final int OWN = 5;

    private static final int NOTHING_ON_FRAGILE = 0;
    private static final int UPRIGHT_AT_BOTTOM = 1;
    private static final int DANGEROUS_WITH_ITS_KIND = 2;
    private static final int COLD_UNDER_ITS_KIND = 3;
    private static final int FAILS = 1;

    private static final int ASKING_MAY = 0;
    private static final int ASKING_TOGETHER = 1;
    private static final int ASKING_MARK = 2;

    private static final int NONE = -1;
    private static final int LINE_END = 10;
    private static final int BLANK = 32;
    private static final int LAST_SIGN = 126;

    private final Unit[] units = new Unit[MAX_UNITS];
    private int unitCount = 0;
    // By number: rule n is at n - 1, wherever it stands in the order.
    private final Rule[] rules = new Rule[MAX_RULES];
    private int ruleCount = 0;
    // Up to ruleCount each of the numbers 1 .. ruleCount once, so that each of them, less 1, is a place of rules.
    private final int[] numbersInOrder = new int[MAX_RULES];
    // As long as the order: an asking comes to each rule at most once.
    private final int[] askedNumbers = new int[MAX_RULES];
    private int askedCount = 0;
    private final Text text = new Text();
    private int verdictCount = 0;
    private int refusedCount = 0;

    public FragileRules() {
        // All are made here, so that no place of these rows is ever null and no call makes more.
        for (int i = 0; i < MAX_UNITS; i++) {
            units[i] = new Unit();
        }
        for (int i = 0; i < MAX_RULES; i++) {
            rules[i] = new Rule();
        }
    }

    public int unit(int kind, int weight, int marks) throws IllegalArgumentException, UnsupportedOperationException {
        if (!isWithin(kind, MAX_KIND) || !isWithin(weight, MAX_WEIGHT) || !isWithin(marks, ALL_MARKS)) {
            throw new IllegalArgumentException("kind, weight or marks out of range");
        }
        if (unitCount >= MAX_UNITS) {
            throw new UnsupportedOperationException("no room for a unit");
        }
        // The place behind the last unit is nobody's until it is counted, so a refused one leaves no trace.
        Unit unit = units[unitCount];
        unit.kind = kind;
        unit.weight = weight;
        unit.marks = marks;
        int refusing = firstRefusingMarks(unit);
        askedCount = 0;
        if (refusing != 0) {
            return -1 - refusing;
        }
        unitCount++;
        return unitCount - 1;
    }

    public int rule(int row, int a, int b) throws IllegalArgumentException, UnsupportedOperationException {
        if (!isRule(row, a, b)) {
            throw new IllegalArgumentException("not as the row says");
        }
        if (ruleCount >= MAX_RULES) {
            throw new UnsupportedOperationException("no room for a rule");
        }
        return addRule(row, a, b);
    }

    public int own(int does, boolean fails) throws IllegalArgumentException, UnsupportedOperationException {
        if (!isWithin(does, COLD_UNDER_ITS_KIND)) {
            throw new IllegalArgumentException("no such doing");
        }
        if (ruleCount >= MAX_RULES) {
            throw new UnsupportedOperationException("no room for a rule");
        }
        return addRule(OWN, does, fails ? FAILS : 0);
    }

    public void sign(int c) throws IllegalArgumentException, UnsupportedOperationException {
        if (c != LINE_END && (c < BLANK || c > LAST_SIGN)) {
            throw new IllegalArgumentException("no such sign");
        }
        if (text.length >= MAX_SIGNS) {
            throw new UnsupportedOperationException("no room for a sign");
        }
        text.signs[text.length] = c;
        text.length++;
    }

    public int read() throws UnsupportedOperationException {
        int wrong = text.wrongPlace();
        int lines = text.lineCount();
        boolean hasRoom = lines <= MAX_RULES - ruleCount;
        if (wrong == NONE && hasRoom) {
            addLines(lines);
        }
        // The signs are gone whatever comes of them: the document makes no exception for a text without room.
        text.length = 0;
        if (wrong != NONE) {
            return -1 - wrong;
        }
        if (!hasRoom) {
            throw new UnsupportedOperationException("no room for the rules of the text");
        }
        return ruleCount;
    }

    public int may(int below, int above, int place) throws NoSuchElementException, IllegalArgumentException, IllegalStateException {
        if (!isUnit(below) || !isUnit(above)) {
            throw new NoSuchElementException("no such unit");
        }
        if (!isWithin(place, MAX_PLACE)) {
            throw new IllegalArgumentException("no such place");
        }
        if (below == above) {
            throw new IllegalStateException("the same unit");
        }
        return verdict(ASKING_MAY, units[below], units[above], place);
    }

    public int together(int unit, int other) throws NoSuchElementException, IllegalStateException {
        if (!isUnit(unit) || !isUnit(other)) {
            throw new NoSuchElementException("no such unit");
        }
        if (unit == other) {
            throw new IllegalStateException("the same unit");
        }
        return verdict(ASKING_TOGETHER, units[unit], units[other], 0);
    }

    public int mark(int unit, int m) throws NoSuchElementException, IllegalArgumentException, IllegalStateException {
        if (!isUnit(unit)) {
            throw new NoSuchElementException("no such unit");
        }
        if (!isMark(m)) {
            throw new IllegalArgumentException("no such mark");
        }
        Unit marked = units[unit];
        if (marked.has(m)) {
            throw new IllegalStateException("it has the mark");
        }
        int refusing = verdict(ASKING_MARK, marked, marked, m);
        if (refusing == 0) {
            marked.marks |= m;
        }
        return refusing;
    }

    public int asked(int i) {
        return i >= 0 && i < askedCount ? askedNumbers[i] : NONE;
    }

    public int never(int i) throws IllegalArgumentException {
        if (i < 0) {
            throw new IllegalArgumentException("below 0");
        }
        int before = 0;
        for (int number = 1; number <= ruleCount; number++) {
            if (rules[number - 1].refusals == 0) {
                if (before == i) {
                    return number;
                }
                before++;
            }
        }
        return NONE;
    }

    public int order(int rule, int place) throws NoSuchElementException, IllegalArgumentException {
        if (!isRuleNumber(rule)) {
            throw new NoSuchElementException("no such rule");
        }
        if (!isWithin(place, ruleCount - 1)) {
            throw new IllegalArgumentException("no such place in the order");
        }
        int was = placeInOrder(rule);
        if (was < place) {
            System.arraycopy(numbersInOrder, was + 1, numbersInOrder, was, place - was);
        } else {
            System.arraycopy(numbersInOrder, place, numbersInOrder, place + 1, was - place);
        }
        numbersInOrder[place] = rule;
        return was;
    }

    public int told(int rule, int what) throws NoSuchElementException, IllegalArgumentException {
        if (!isRuleNumber(rule)) {
            throw new NoSuchElementException("no such rule");
        }
        Rule it = rules[rule - 1];
        switch (what) {
            case 0:
                return it.row;
            case 1:
                return it.a;
            case 2:
                return it.b;
            case 3:
                return placeInOrder(rule);
            case 4:
                return it.refusals;
            default:
                throw new IllegalArgumentException("nothing of that is told of a rule");
        }
    }

    public int about(int unit, int what) throws NoSuchElementException, IllegalArgumentException {
        if (!isUnit(unit)) {
            throw new NoSuchElementException("no such unit");
        }
        switch (what) {
            case 0:
                return units[unit].kind;
            case 1:
                return units[unit].weight;
            case 2:
                return units[unit].marks;
            default:
                throw new IllegalArgumentException("nothing of that is told of a unit");
        }
    }

    public int count(int what) {
        switch (what) {
            case 0:
                return unitCount;
            case 1:
                return ruleCount;
            case 2:
                return text.length;
            case 3:
                return verdictCount;
            case 4:
                return refusedCount;
            default:
                return NONE;
        }
    }

    private static boolean isWithin(int number, int largest) {
        return number >= 0 && number <= largest;
    }

    private static boolean isMark(int m) {
        return isWithin(m, PAPERS) && Integer.bitCount(m) == 1;
    }

    private static boolean isRule(int row, int a, int b) {
        switch (row) {
            case NEVER_ABOVE:
            case APART:
                return isWithin(a, MAX_KIND) && isWithin(b, MAX_KIND);
            case BEARS:
                return isWithin(a, MAX_KIND) && isWithin(b, MAX_BEARS);
            case BELOW:
                return isWithin(a, MAX_KIND) && isWithin(b, MAX_PLACE);
            case NEEDS:
                return isMark(a) && isMark(b) && a != b;
            default:
                return false;
        }
    }

    private boolean isUnit(int number) {
        return number >= 0 && number < unitCount;
    }

    private boolean isRuleNumber(int number) {
        return number >= 1 && number <= ruleCount;
    }

    // Only behind a test that there is room.
    private int addRule(int row, int a, int b) {
        Rule rule = rules[ruleCount];
        rule.row = row;
        rule.a = a;
        rule.b = b;
        numbersInOrder[ruleCount] = ruleCount + 1;
        ruleCount++;
        return ruleCount;
    }

    // Only for a right text, and behind a test that there is room.
    private void addLines(int lines) {
        int start = 0;
        for (int line = 0; line < lines; line++) {
            addRule(text.rowAt(start), text.digitAt(start + 2), text.numberAt(start + 4));
            start = text.behindLine(start);
        }
    }

    private int placeInOrder(int number) {
        int place = 0;
        while (place < ruleCount - 1 && numbersInOrder[place] != number) {
            place++;
        }
        return place;
    }

    private int verdict(int asking, Unit unit, Unit other, int number) {
        int refusing = firstRefusing(asking, unit, other, number);
        verdictCount++;
        if (refusing != 0) {
            refusedCount++;
        }
        return refusing;
    }

    private int firstRefusingMarks(Unit unit) {
        for (int m = FRAGILE; m <= PAPERS; m <<= 1) {
            int refusing = unit.has(m) ? firstRefusing(ASKING_MARK, unit, unit, m) : 0;
            if (refusing != 0) {
                return refusing;
            }
        }
        return 0;
    }

    private int firstRefusing(int asking, Unit unit, Unit other, int number) {
        askedCount = 0;
        for (int place = 0; place < ruleCount; place++) {
            int ruleNumber = numbersInOrder[place];
            Rule rule = rules[ruleNumber - 1];
            if (rule.asking() == asking) {
                askedNumbers[askedCount] = ruleNumber;
                askedCount++;
                if (rule.refuses(unit, other, number)) {
                    rule.refusals++;
                    return ruleNumber;
                }
            }
        }
        return 0;
    }

    private static final class Unit {
        int kind = 0;
        int weight = 0;
        int marks = 0;

        boolean has(int m) {
            return (marks & m) != 0;
        }
    }

    private static final class Rule {
        int row = 0;
        int a = 0;
        int b = 0;
        int refusals = 0;

        int asking() {
            switch (row) {
                case APART:
                    return ASKING_TOGETHER;
                case NEEDS:
                    return ASKING_MARK;
                case OWN:
                    return a == DANGEROUS_WITH_ITS_KIND ? ASKING_TOGETHER : ASKING_MAY;
                default:
                    return ASKING_MAY;
            }
        }

        // One form for the three askings: at MAY the unit is the one below, the other the one above and the
        // number the above one's place; at MARK the number is the mark.
        boolean refuses(Unit unit, Unit other, int number) {
            switch (row) {
                case NEVER_ABOVE:
                    return other.kind == a && unit.kind == b;
                case APART:
                    return unit.kind == a && other.kind == b || unit.kind == b && other.kind == a;
                case BEARS:
                    return unit.kind == a && other.weight > WEIGHT_STEP * b;
                case BELOW:
                    return other.kind == a && number >= b;
                case NEEDS:
                    return number == a && !unit.has(b);
                default:
                    return b == FAILS || refusesByItsDoing(unit, other, number);
            }
        }

        boolean refusesByItsDoing(Unit unit, Unit other, int place) {
            switch (a) {
                case NOTHING_ON_FRAGILE:
                    return unit.has(FRAGILE);
                case UPRIGHT_AT_BOTTOM:
                    return other.has(UPRIGHT) && place != 0;
                case DANGEROUS_WITH_ITS_KIND:
                    return (unit.has(DANGEROUS) || other.has(DANGEROUS)) && unit.kind != other.kind;
                default:
                    return unit.has(COLD) && unit.kind != other.kind;
            }
        }
    }

    private static final class Text {
        final int[] signs = new int[MAX_SIGNS];
        int length = 0;

        int wrongPlace() {
            int start = 0;
            for (int line = 0; line < MAX_SIGNS && start < length; line++) {
                int behind = behindLine(start);
                if (behind < 0) {
                    return -1 - behind;
                }
                start = behind;
            }
            return NONE;
        }

        int lineCount() {
            int lines = 0;
            for (int i = 0; i < length; i++) {
                if (signs[i] == LINE_END) {
                    lines++;
                }
            }
            return lines;
        }

        // Where the line that begins at start has ended; or -1 less the place at which it is wrong.
        int behindLine(int start) {
            int row = rowAt(start);
            if (row == NONE) {
                return -1 - start;
            }
            if (signAt(start + 1) != BLANK) {
                return -2 - start;
            }
            if (!isWithin(digitAt(start + 2), MAX_KIND)) {
                return -3 - start;
            }
            if (signAt(start + 3) != BLANK) {
                return -4 - start;
            }
            int first = digitAt(start + 4);
            if (!isWithin(first, row == BEARS || row == BELOW ? 9 : MAX_KIND)) {
                return -5 - start;
            }
            boolean twoDigits = row == BEARS && first != 0 && digitAt(start + 5) != NONE;
            int end = start + (twoDigits ? 6 : 5);
            return signAt(end) == LINE_END ? end + 1 : -1 - end;
        }

        int rowAt(int place) {
            switch (signAt(place)) {
                case 'N':
                    return NEVER_ABOVE;
                case 'A':
                    return APART;
                case 'B':
                    return BEARS;
                case 'L':
                    return BELOW;
                default:
                    return NONE;
            }
        }

        int numberAt(int place) {
            int first = digitAt(place);
            int second = digitAt(place + 1);
            return second == NONE ? first : 10 * first + second;
        }

        int digitAt(int place) {
            int sign = signAt(place);
            return sign >= '0' && sign <= '9' ? sign - '0' : NONE;
        }

        // Behind the end there is no sign, which is none of those that a line asks for: so a text that ends too
        // early is wrong at its length.
        int signAt(int place) {
            return place >= 0 && place < length ? signs[place] : NONE;
        }
    }
}
