/** The edges of promises 7, 8, 9, 10 and 15, a run of calls for each sentence. */
public final class EdgeVerdictTest {
    private static final Check CHECK = new Check("edges of promises 7, 8, 9, 10 and 15");

    public static void main(String[] args) {
        may();
        together();
        mark();
        askedUpToTheOneThatRefused();
        askedAtTheLatestVerdict();
        askedBehindUnit();
        counts();
        CHECK.end();
    }

    private static void edge(String sentence, String lines) {
        Script.run(CHECK, sentence, lines);
    }

    private static void may() {
        edge("Whether a unit may stand above another one, at a place: 0; or the first rule that refuses", """
            2 times unit(0, 0, 0)
            may(0, 1, 0) = 0
            11 times own(2, true)
            may(0, 1, 9) = 0
            own(0, true) = 12
            may(0, 1, 0) = 12
            may(1, 0, 9) = 12
            """);
        edge("the first rule that refuses, by the order", """
            rule(0, 1, 0) = 1
            rule(3, 1, 5) = 2
            unit(0, 0, 0) = 0
            unit(1, 0, 0) = 1
            may(0, 1, 5) = 1
            order(2, 0) = 1
            may(0, 1, 5) = 2
            may(0, 1, 4) = 1
            told(1, 4) = 2
            told(2, 4) = 1
            """);
        edge("may: the last unit and the first that there is not", """
            9 times unit(0, 0, 0)
            may(8, 0, 0) = 0
            may(0, 8, 0) = 0
            may(9, 0, 0) = NoSuchElementException
            may(0, 9, 0) = NoSuchElementException
            unit(0, 0, 0) = 9
            may(9, 0, 0) = 0
            may(0, 9, 0) = 0
            may(10, 0, 0) = NoSuchElementException
            may(0, 10, 0) = NoSuchElementException
            may(-1, 0, 0) = NoSuchElementException
            may(0, -1, 0) = NoSuchElementException
            may(min, 0, 0) = NoSuchElementException
            may(0, max, 0) = NoSuchElementException
            """);
        edge("may: the same unit", """
            own(0, true) = 1
            2 times unit(0, 0, 0)
            may(0, 0, 0) = IllegalStateException
            may(1, 1, 9) = IllegalStateException
            told(1, 4) = 0
            asked(0) = -1
            count(3) = 0
            may(0, 1, 0) = 1
            """);
    }

    private static void together() {
        edge("Whether two units may be together: 0; or the first rule that refuses", """
            2 times unit(0, 0, 0)
            together(0, 1) = 0
            11 times own(0, true)
            together(1, 0) = 0
            own(2, true) = 12
            together(0, 1) = 12
            together(1, 0) = 12
            """);
        edge("together: the first rule that refuses, by the order", """
            rule(1, 0, 1) = 1
            own(2, false) = 2
            unit(0, 0, 8) = 0
            unit(1, 0, 0) = 1
            unit(2, 0, 0) = 2
            together(1, 0) = 1
            order(1, 1) = 0
            together(0, 1) = 2
            together(2, 0) = 2
            together(2, 1) = 0
            told(1, 4) = 1
            told(2, 4) = 2
            """);
        edge("together: the last unit and the first that there is not", """
            10 times unit(0, 0, 0)
            together(9, 0) = 0
            together(0, 9) = 0
            together(10, 0) = NoSuchElementException
            together(0, 10) = NoSuchElementException
            together(-1, 0) = NoSuchElementException
            together(0, -1) = NoSuchElementException
            together(max, 0) = NoSuchElementException
            together(0, min) = NoSuchElementException
            """);
        edge("together: the same unit", """
            own(2, true) = 1
            2 times unit(0, 0, 0)
            together(0, 0) = IllegalStateException
            together(1, 1) = IllegalStateException
            told(1, 4) = 0
            asked(0) = -1
            count(3) = 0
            together(0, 1) = 1
            """);
    }

    private static void mark() {
        edge("A unit gets a mark (1, 2, 4, 8, 16): 0", """
            unit(0, 0, 0) = 0
            mark(0, 1) = 0
            mark(0, 2) = 0
            mark(0, 4) = 0
            mark(0, 8) = 0
            mark(0, 16) = 0
            about(0, 2) = 31
            mark(0, 0) = IllegalArgumentException
            mark(0, 3) = IllegalArgumentException
            mark(0, 15) = IllegalArgumentException
            mark(0, 17) = IllegalArgumentException
            mark(0, 31) = IllegalArgumentException
            mark(0, 32) = IllegalArgumentException
            mark(0, 256) = IllegalArgumentException
            mark(0, -1) = IllegalArgumentException
            mark(0, -16) = IllegalArgumentException
            mark(0, min) = IllegalArgumentException
            mark(0, max) = IllegalArgumentException
            about(0, 2) = 31
            count(3) = 5
            """);
        edge("or the first rule that refuses, and it does not", """
            11 times rule(4, 1, 2)
            rule(4, 16, 1) = 12
            unit(0, 0, 0) = 0
            mark(0, 16) = 12
            mark(0, 1) = 1
            about(0, 2) = 0
            order(1, 11) = 0
            mark(0, 1) = 2
            mark(0, 2) = 0
            mark(0, 1) = 0
            mark(0, 16) = 0
            about(0, 2) = 19
            """);
        edge("mark: a mark that came before the rule is not asked for", """
            unit(0, 0, 8) = 0
            rule(4, 8, 16) = 1
            mark(0, 4) = 0
            about(0, 2) = 12
            """);
        edge("mark: it has it", """
            rule(4, 1, 2) = 1
            unit(0, 0, 18) = 0
            mark(0, 2) = IllegalStateException
            mark(0, 16) = IllegalStateException
            mark(0, 1) = 0
            mark(0, 1) = IllegalStateException
            about(0, 2) = 19
            count(3) = 1
            """);
        edge("mark: the last unit and the first that there is not", """
            10 times unit(0, 0, 0)
            mark(9, 1) = 0
            mark(10, 1) = NoSuchElementException
            mark(-1, 1) = NoSuchElementException
            mark(min, 1) = NoSuchElementException
            mark(max, 1) = NoSuchElementException
            about(9, 2) = 1
            about(8, 2) = 0
            """);
    }

    private static void askedUpToTheOneThatRefused() {
        edge("Rule i that was asked at the latest verdict, in the order of asking, up to the one that refused", """
            rule(0, 0, 0) = 1
            rule(3, 1, 5) = 2
            own(1, true) = 3
            own(3, false) = 4
            unit(0, 0, 0) = 0
            unit(1, 0, 0) = 1
            may(0, 1, 5) = 2
            asked(0) = 1
            asked(1) = 2
            asked(2) = -1
            may(0, 1, 4) = 3
            asked(2) = 3
            asked(3) = -1
            order(3, 3) = 2
            order(4, 0) = 2
            may(0, 1, 4) = 3
            asked(0) = 4
            asked(1) = 1
            asked(2) = 2
            asked(3) = 3
            asked(4) = -1
            """);
        edge("asked: -1 if there are not so many", """
            12 times own(0, false)
            2 times unit(0, 0, 0)
            may(0, 1, 0) = 0
            asked(0) = 1
            asked(11) = 12
            asked(12) = -1
            asked(-1) = -1
            asked(min) = -1
            asked(max) = -1
            """);
    }

    private static void askedAtTheLatestVerdict() {
        edge("asked: the latest verdict, also if no rule was asked there", """
            own(0, true) = 1
            2 times unit(0, 0, 0)
            may(0, 1, 0) = 1
            asked(0) = 1
            together(0, 1) = 0
            asked(0) = -1
            may(0, 1, 0) = 1
            mark(0, 1) = 0
            asked(0) = -1
            """);
        edge("asked: a refused call is no verdict", """
            own(0, true) = 1
            rule(1, 0, 0) = 2
            2 times unit(0, 0, 0)
            together(0, 1) = 2
            may(0, 2, 0) = NoSuchElementException
            may(0, 1, 10) = IllegalArgumentException
            may(0, 0, 0) = IllegalStateException
            together(0, 0) = IllegalStateException
            together(0, 2) = NoSuchElementException
            mark(0, 3) = IllegalArgumentException
            mark(2, 1) = NoSuchElementException
            asked(0) = 2
            asked(1) = -1
            """);
        edge("asked: other calls leave it", """
            rule(1, 0, 0) = 1
            2 times unit(0, 0, 0)
            together(0, 1) = 1
            own(2, true) = 2
            order(2, 0) = 1
            write "A 0 0|"
            read() = 3
            write "A"
            read() = -2
            asked(0) = 1
            asked(1) = -1
            """);
    }

    private static void askedBehindUnit() {
        String before = """
            rule(1, 0, 0) = 1
            rule(4, 1, 2) = 2
            2 times unit(0, 0, 0)
            together(0, 1) = 1
            asked(0) = 1
            """;
        edge("none behind a unit() that answered (its number)", before + """
            unit(0, 0, 0) = 2
            asked(0) = -1
            """);
        edge("none behind a unit() that answered (its number, with marks that were asked for)", before + """
            unit(0, 0, 3) = 2
            asked(0) = -1
            """);
        edge("none behind a unit() that answered (less than 0)", before + """
            unit(0, 0, 1) = -3
            asked(0) = -1
            """);
        edge("none behind a unit() that answered: one that is refused does not", before + """
            unit(8, 0, 0) = IllegalArgumentException
            asked(0) = 1
            8 times unit(0, 0, 0)
            together(0, 1) = 1
            unit(0, 0, 0) = UnsupportedOperationException
            unit(0, 0, 1) = UnsupportedOperationException
            asked(0) = 1
            """);
    }

    private static void counts() {
        edge("0 units, 1 rules, 2 signs (none and all)", """
            count(0) = 0
            count(1) = 0
            count(2) = 0
            10 times unit(0, 0, 0)
            12 times own(0, false)
            200 times sign(126)
            count(0) = 10
            count(1) = 12
            count(2) = 200
            unit(0, 0, 0) = UnsupportedOperationException
            own(0, false) = UnsupportedOperationException
            sign(126) = UnsupportedOperationException
            count(0) = 10
            count(1) = 12
            count(2) = 200
            """);
        edge("3 verdicts so far (of may(), together(), mark(); refused calls none)", """
            2 times unit(0, 0, 0)
            count(3) = 0
            may(0, 1, 0) = 0
            count(3) = 1
            together(0, 1) = 0
            count(3) = 2
            mark(0, 1) = 0
            count(3) = 3
            may(0, 0, 0) = IllegalStateException
            may(0, 1, 10) = IllegalArgumentException
            may(0, 2, 0) = NoSuchElementException
            together(1, 1) = IllegalStateException
            together(2, 1) = NoSuchElementException
            mark(0, 1) = IllegalStateException
            mark(0, 3) = IllegalArgumentException
            mark(2, 2) = NoSuchElementException
            count(3) = 3
            count(4) = 0
            """);
        edge("4 of these in which a rule refused", """
            own(0, true) = 1
            own(2, true) = 2
            rule(4, 1, 2) = 3
            2 times unit(0, 0, 0)
            may(0, 1, 0) = 1
            count(4) = 1
            together(0, 1) = 2
            count(4) = 2
            mark(0, 1) = 3
            count(4) = 3
            mark(0, 2) = 0
            mark(0, 1) = 0
            count(4) = 3
            count(3) = 5
            unit(0, 0, 1) = -4
            count(4) = 3
            count(3) = 5
            """);
        edge("-1 for another what", """
            unit(0, 0, 0) = 0
            count(-1) = -1
            count(5) = -1
            count(min) = -1
            count(max) = -1
            """);
    }
}
