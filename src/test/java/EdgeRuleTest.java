/** The edges of promises 3, 4, 11, 12 and 13, a run of calls for each sentence. */
public final class EdgeRuleTest {
    private static final Check CHECK = new Check("edges of promises 3, 4, 11, 12 and 13");
    private static final int[] MARKS = {1, 2, 4, 8, 16};

    public static void main(String[] args) {
        aRuleOfRowZeroToFour();
        asTheRowSays();
        needsAnyTwoMarks();
        anOwnRule();
        aRuleThatHasNeverRefused();
        aRuleComesToAPlace();
        noSuchPlace();
        ofARule();
        CHECK.end();
    }

    private static void edge(String sentence, String lines) {
        Script.run(CHECK, sentence, lines);
    }

    private static void aRuleOfRowZeroToFour() {
        edge("A rule of row 0 .. 4: its number", """
            rule(0, 1, 2) = 1
            rule(4, 1, 2) = 2
            rule(-1, 1, 2) = IllegalArgumentException
            rule(5, 1, 2) = IllegalArgumentException
            rule(5, 0, 0) = IllegalArgumentException
            rule(5, 3, 1) = IllegalArgumentException
            rule(min, 1, 2) = IllegalArgumentException
            rule(max, 1, 2) = IllegalArgumentException
            count(1) = 2
            rule(1, 1, 2) = 3
            told(1, 0) = 0
            told(2, 0) = 4
            told(3, 0) = 1
            """);
        edge("A rule: no room", """
            11 times rule(0, 0, 0)
            rule(3, 7, 9) = 12
            rule(0, 0, 0) = UnsupportedOperationException
            rule(4, 1, 2) = UnsupportedOperationException
            rule(0, 0, 8) = IllegalArgumentException
            rule(5, 0, 0) = IllegalArgumentException
            told(12, 0) = 3
            told(12, 1) = 7
            told(12, 2) = 9
            count(1) = 12
            """);
    }

    private static void asTheRowSays() {
        rowWithEdges(0, 7, 7);
        rowWithEdges(1, 7, 7);
        rowWithEdges(2, 7, 99);
        rowWithEdges(3, 7, 9);
        edge("row, a, b are not as the row says (row 4: also the same mark)", """
            rule(4, 1, 16) = 1
            rule(4, 16, 1) = 2
            rule(4, 0, 1) = IllegalArgumentException
            rule(4, 1, 0) = IllegalArgumentException
            rule(4, 32, 1) = IllegalArgumentException
            rule(4, 1, 32) = IllegalArgumentException
            rule(4, 3, 4) = IllegalArgumentException
            rule(4, 4, 3) = IllegalArgumentException
            rule(4, 31, 1) = IllegalArgumentException
            rule(4, -1, 1) = IllegalArgumentException
            rule(4, 1, -1) = IllegalArgumentException
            rule(4, min, 1) = IllegalArgumentException
            rule(4, 1, min) = IllegalArgumentException
            rule(4, max, 1) = IllegalArgumentException
            rule(4, 1, max) = IllegalArgumentException
            count(1) = 2
            """);
    }

    private static void rowWithEdges(int row, int largestA, int largestB) {
        String lines = """
            rule(R, 0, 0) = 1
            rule(R, A, B) = 2
            rule(R, A, 0) = 3
            rule(R, 0, B) = 4
            rule(R, -1, 0) = IllegalArgumentException
            rule(R, 0, -1) = IllegalArgumentException
            rule(R, P, 0) = IllegalArgumentException
            rule(R, 0, Q) = IllegalArgumentException
            rule(R, min, 0) = IllegalArgumentException
            rule(R, 0, min) = IllegalArgumentException
            rule(R, max, 0) = IllegalArgumentException
            rule(R, 0, max) = IllegalArgumentException
            rule(R, 256, 0) = IllegalArgumentException
            rule(R, 0, 256) = IllegalArgumentException
            told(2, 0) = R
            told(2, 1) = A
            told(2, 2) = B
            count(1) = 4
            """;
        edge("row, a, b are not as the row says: row " + row, lines.replace("R", String.valueOf(row))
            .replaceAll("\\bA\\b", String.valueOf(largestA)).replaceAll("\\bB\\b", String.valueOf(largestB))
            .replace("P", String.valueOf(largestA + 1)).replace("Q", String.valueOf(largestB + 1)));
    }

    private static void needsAnyTwoMarks() {
        for (int a : MARKS) {
            for (int b : MARKS) {
                FragileRules x = new FragileRules();
                String call = "rule(4, " + a + ", " + b + ")";
                if (a == b) {
                    CHECK.refused(call, IllegalArgumentException.class, () -> x.rule(4, a, b));
                } else {
                    CHECK.due(call, 1, () -> x.rule(4, a, b));
                }
            }
        }
    }

    private static void anOwnRule() {
        edge("An own rule: its number", """
            own(0, false) = 1
            own(0, true) = 2
            own(3, false) = 3
            own(3, true) = 4
            own(-1, false) = IllegalArgumentException
            own(4, false) = IllegalArgumentException
            own(4, true) = IllegalArgumentException
            own(min, true) = IllegalArgumentException
            own(max, true) = IllegalArgumentException
            told(1, 0) = 5
            told(1, 1) = 0
            told(1, 2) = 0
            told(2, 2) = 1
            told(3, 1) = 3
            told(4, 1) = 3
            told(4, 2) = 1
            count(1) = 4
            """);
        edge("An own rule: no room", """
            11 times rule(0, 0, 0)
            own(3, true) = 12
            own(0, false) = UnsupportedOperationException
            own(3, true) = UnsupportedOperationException
            own(4, true) = IllegalArgumentException
            own(-1, true) = IllegalArgumentException
            count(1) = 12
            """);
    }

    private static void aRuleThatHasNeverRefused() {
        edge("The i-th rule (by numbers) that has never refused yet; -1 if there are not so many", """
            own(0, true) = 1
            rule(0, 0, 0) = 2
            own(2, true) = 3
            never(0) = 1
            never(2) = 3
            never(3) = -1
            never(max) = -1
            2 times unit(0, 0, 0)
            order(3, 0) = 2
            together(0, 1) = 3
            never(0) = 1
            never(1) = 2
            never(2) = -1
            may(0, 1, 0) = 1
            never(0) = 2
            never(1) = -1
            order(2, 0) = 2
            may(0, 1, 0) = 2
            never(0) = -1
            own(0, false) = 4
            never(0) = 4
            never(1) = -1
            """);
        edge("The i-th rule of 12", """
            12 times own(0, true)
            never(11) = 12
            never(12) = -1
            2 times unit(0, 0, 0)
            may(0, 1, 0) = 1
            never(0) = 2
            never(10) = 12
            never(11) = -1
            """);
        edge("never: i is below 0", """
            never(-1) = IllegalArgumentException
            never(min) = IllegalArgumentException
            never(0) = -1
            own(0, false) = 1
            never(-1) = IllegalArgumentException
            never(0) = 1
            """);
    }

    private static void aRuleComesToAPlace() {
        String four = """
            4 times rule(0, 0, 0)
            """;
        edge("A rule comes to a place; the others keep theirs: where it was (to the end)", four + """
            order(1, 3) = 0
            told(1, 3) = 3
            told(2, 3) = 0
            told(3, 3) = 1
            told(4, 3) = 2
            order(1, 3) = 3
            """);
        edge("A rule comes to a place; the others keep theirs: where it was (to the start)", four + """
            order(4, 0) = 3
            told(1, 3) = 1
            told(2, 3) = 2
            told(3, 3) = 3
            told(4, 3) = 0
            order(4, 0) = 0
            """);
        edge("A rule comes to a place; the others keep theirs: where it was (to its own, to the next)", four + """
            order(2, 1) = 1
            told(1, 3) = 0
            told(2, 3) = 1
            told(3, 3) = 2
            order(2, 2) = 1
            told(2, 3) = 2
            told(3, 3) = 1
            order(2, 1) = 2
            told(2, 3) = 1
            told(3, 3) = 2
            told(4, 3) = 3
            """);
        edge("A rule comes to a place: a rule alone", """
            rule(0, 0, 0) = 1
            order(1, 0) = 0
            order(1, 1) = IllegalArgumentException
            order(1, -1) = IllegalArgumentException
            order(0, 0) = NoSuchElementException
            order(2, 0) = NoSuchElementException
            told(1, 3) = 0
            """);
        edge("A rule comes to a place: 12 rules", """
            12 times own(0, true)
            order(12, 0) = 11
            order(1, 11) = 1
            order(12, 11) = 0
            told(1, 3) = 10
            told(12, 3) = 11
            told(2, 3) = 0
            2 times unit(0, 0, 0)
            may(0, 1, 0) = 2
            order(5, 12) = IllegalArgumentException
            order(13, 0) = NoSuchElementException
            """);
        edge("A rule comes to a place: a rule that comes later is the last in the order", four + """
            order(1, 3) = 0
            own(0, false) = 5
            told(5, 3) = 4
            told(1, 3) = 3
            order(5, 4) = 4
            """);
    }

    private static void noSuchPlace() {
        edge("order: no such place", """
            3 times rule(0, 0, 0)
            order(1, -1) = IllegalArgumentException
            order(1, 3) = IllegalArgumentException
            order(1, 11) = IllegalArgumentException
            order(1, min) = IllegalArgumentException
            order(1, max) = IllegalArgumentException
            order(0, 0) = NoSuchElementException
            order(4, 0) = NoSuchElementException
            order(min, 0) = NoSuchElementException
            order(max, 0) = NoSuchElementException
            told(1, 3) = 0
            order(1, 2) = 0
            """);
    }

    private static void ofARule() {
        edge("Of a rule 0 its row, 1 a, 2 b, 3 its place in the order, 4 how often it refused", """
            rule(2, 7, 99) = 1
            own(3, true) = 2
            order(2, 0) = 1
            2 times unit(0, 0, 0)
            3 times may(0, 1, 0) = 2
            told(1, 0) = 2
            told(1, 1) = 7
            told(1, 2) = 99
            told(1, 3) = 1
            told(1, 4) = 0
            told(2, 0) = 5
            told(2, 1) = 3
            told(2, 2) = 1
            told(2, 3) = 0
            told(2, 4) = 3
            told(1, -1) = IllegalArgumentException
            told(1, 5) = IllegalArgumentException
            told(2, min) = IllegalArgumentException
            told(2, max) = IllegalArgumentException
            told(0, 0) = NoSuchElementException
            told(-1, 0) = NoSuchElementException
            told(3, 0) = NoSuchElementException
            told(min, 0) = NoSuchElementException
            told(max, 0) = NoSuchElementException
            """);
    }
}
