/** The edges of promises 1, 2 and 14, a run of calls for each sentence. */
public final class EdgeUnitTest {
    private static final Check CHECK = new Check("edges of promises 1, 2 and 14");

    public static void main(String[] args) {
        noUnitsAndRules();
        itsNumber();
        lessThanZero();
        askedForEachMark();
        theRefusalCounts();
        aboutUnits();
        CHECK.end();
    }

    private static void edge(String sentence, String lines) {
        Script.run(CHECK, sentence, lines);
    }

    private static void noUnitsAndRules() {
        edge("No units and rules", """
            count(0) = 0
            count(1) = 0
            count(2) = 0
            count(3) = 0
            count(4) = 0
            asked(0) = -1
            never(0) = -1
            read() = 0
            about(0, 0) = NoSuchElementException
            told(1, 0) = NoSuchElementException
            told(0, 0) = NoSuchElementException
            order(1, 0) = NoSuchElementException
            order(0, 0) = NoSuchElementException
            may(0, 1, 0) = NoSuchElementException
            may(0, 0, 0) = NoSuchElementException
            together(0, 1) = NoSuchElementException
            together(0, 0) = NoSuchElementException
            mark(0, 1) = NoSuchElementException
            """);
        edge("No units and rules: the first of each", """
            unit(0, 0, 0) = 0
            rule(0, 0, 0) = 1
            may(0, 1, 0) = NoSuchElementException
            together(1, 0) = NoSuchElementException
            order(1, 0) = 0
            order(1, 1) = IllegalArgumentException
            never(0) = 1
            """);
        FragileRules one = new FragileRules();
        one.unit(1, 1, 1);
        one.own(0, true);
        FragileRules other = new FragileRules();
        CHECK.due("a new object beside another one: units", 0, () -> other.count(0));
        CHECK.due("a new object beside another one: rules", 0, () -> other.count(1));
    }

    private static void itsNumber() {
        edge("A unit: its number, also behind refused ones", """
            unit(0, 0, 0) = 0
            unit(8, 0, 0) = IllegalArgumentException
            unit(0, 0, 0) = 1
            rule(4, 1, 2) = 1
            unit(0, 0, 1) = -2
            unit(0, 0, 0) = 2
            7 times unit(1, 2, 2)
            unit(3, 4, 4) = UnsupportedOperationException
            unit(-1, 4, 4) = IllegalArgumentException
            about(9, 0) = 1
            about(9, 1) = 2
            about(9, 2) = 2
            count(0) = 10
            """);
        edge("A unit without room: no rule is asked of it", """
            rule(4, 1, 2) = 1
            10 times unit(0, 0, 0)
            unit(0, 0, 1) = UnsupportedOperationException
            told(1, 4) = 0
            never(0) = 1
            """);
    }

    private static void lessThanZero() {
        edge("less than 0, and there is none: -1 less the rule that refuses one of its marks", """
            rule(4, 1, 2) = 1
            unit(0, 0, 1) = -2
            count(0) = 0
            about(0, 0) = NoSuchElementException
            may(0, 1, 0) = NoSuchElementException
            10 times rule(0, 0, 0)
            rule(4, 16, 8) = 12
            unit(0, 0, 16) = -13
            count(0) = 0
            unit(5, 6, 24) = 0
            about(0, 0) = 5
            about(0, 1) = 6
            about(0, 2) = 24
            """);
        edge("there is none: a refused one leaves no trace", """
            rule(4, 1, 2) = 1
            unit(7, 1000, 29) = -2
            unit(0, 0, 0) = 0
            about(0, 0) = 0
            about(0, 1) = 0
            about(0, 2) = 0
            """);
    }

    private static void askedForEachMark() {
        edge("asked for each mark, the least first", """
            rule(4, 16, 2) = 1
            rule(4, 8, 2) = 2
            rule(4, 4, 2) = 3
            rule(4, 1, 2) = 4
            unit(0, 0, 29) = -5
            unit(0, 0, 28) = -4
            unit(0, 0, 24) = -3
            unit(0, 0, 16) = -2
            unit(0, 0, 0) = 0
            unit(0, 0, 2) = 1
            """);
        edge("asked with the others", """
            rule(4, 1, 16) = 1
            rule(4, 16, 1) = 2
            unit(0, 0, 1) = -2
            unit(0, 0, 16) = -3
            unit(0, 0, 17) = 0
            unit(0, 0, 31) = 1
            unit(0, 0, 15) = -2
            unit(0, 0, 30) = -3
            unit(0, 0, 14) = 2
            """);
        edge("the rule that refuses is the first in the order", """
            rule(4, 1, 16) = 1
            rule(4, 1, 8) = 2
            unit(0, 0, 1) = -2
            order(1, 1) = 0
            unit(0, 0, 1) = -3
            unit(0, 0, 9) = -2
            """);
    }

    private static void theRefusalCounts() {
        edge("the refusal counts for that rule", """
            rule(4, 1, 2) = 1
            rule(4, 4, 2) = 2
            unit(0, 0, 5) = -2
            told(1, 4) = 1
            told(2, 4) = 0
            never(0) = 2
            never(1) = -1
            unit(0, 0, 4) = -3
            unit(0, 0, 4) = -3
            told(1, 4) = 1
            told(2, 4) = 2
            never(0) = -1
            count(3) = 0
            count(4) = 0
            """);
    }

    private static void aboutUnits() {
        edge("Of a unit 0 its kind, 1 its weight, 2 its marks", """
            unit(5, 600, 9) = 0
            unit(7, 1000, 31) = 1
            about(0, 0) = 5
            about(0, 1) = 600
            about(0, 2) = 9
            about(1, 0) = 7
            about(1, 1) = 1000
            about(1, 2) = 31
            about(0, -1) = IllegalArgumentException
            about(0, 3) = IllegalArgumentException
            about(1, min) = IllegalArgumentException
            about(1, max) = IllegalArgumentException
            about(-1, 0) = NoSuchElementException
            about(2, 0) = NoSuchElementException
            about(min, 0) = NoSuchElementException
            about(max, 0) = NoSuchElementException
            """);
        edge("Of a unit its marks: a mark got, a mark not got", """
            rule(4, 1, 2) = 1
            unit(0, 0, 4) = 0
            mark(0, 16) = 0
            about(0, 2) = 20
            mark(0, 1) = 1
            about(0, 2) = 20
            """);
    }
}
