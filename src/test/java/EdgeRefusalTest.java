/**
 * "REFUSALS, the first that holds": for each call with several of them, every two that can hold at once; and that a
 * refused call leaves the object as it was, which Script looks at behind each run.
 */
public final class EdgeRefusalTest {
    private static final Check CHECK = new Check("edges of the refusals");

    // Two units, the first with the marks 1 and 2, two rules, a verdict, and the start of a text.
    private static final String SOME = """
        unit(0, 0, 3) = 0
        unit(7, 1000, 0) = 1
        own(0, true) = 1
        rule(4, 16, 8) = 2
        may(0, 1, 9) = 1
        write "N 1"
        """;
    private static final String FULL = """
        10 times unit(0, 0, 0)
        12 times own(2, true)
        together(0, 9) = 1
        40 times write "N 1 2"
        """;

    public static void main(String[] args) {
        noSuchElementFirst();
        illegalArgumentBeforeIllegalState();
        illegalArgumentBeforeNoRoom();
        wrongTextBeforeNoRoom();
        eachNumberOfACallIsLookedAt();
        laterCallsBehindRefusedOnes();
        CHECK.end();
    }

    private static void edge(String sentence, String lines) {
        Script.run(CHECK, sentence, lines);
    }

    private static void noSuchElementFirst() {
        edge("NoSuchElementException before IllegalArgumentException", SOME + """
            may(2, 0, 10) = NoSuchElementException
            may(0, 2, -1) = NoSuchElementException
            may(-1, 5, max) = NoSuchElementException
            mark(2, 3) = NoSuchElementException
            mark(-1, 0) = NoSuchElementException
            order(0, 2) = NoSuchElementException
            order(3, -1) = NoSuchElementException
            order(3, 2) = NoSuchElementException
            told(0, 5) = NoSuchElementException
            told(3, -1) = NoSuchElementException
            about(2, 3) = NoSuchElementException
            about(-1, -1) = NoSuchElementException
            """);
        edge("NoSuchElementException before IllegalStateException", SOME + """
            may(2, 2, 0) = NoSuchElementException
            may(-1, -1, 10) = NoSuchElementException
            together(2, 2) = NoSuchElementException
            together(-1, -1) = NoSuchElementException
            together(min, min) = NoSuchElementException
            """);
    }

    private static void illegalArgumentBeforeIllegalState() {
        edge("IllegalArgumentException before IllegalStateException", SOME + """
            may(0, 0, 10) = IllegalArgumentException
            may(1, 1, -1) = IllegalArgumentException
            may(1, 1, max) = IllegalArgumentException
            mark(0, 3) = IllegalArgumentException
            mark(0, 0) = IllegalArgumentException
            may(0, 0, 9) = IllegalStateException
            mark(0, 2) = IllegalStateException
            """);
    }

    private static void illegalArgumentBeforeNoRoom() {
        edge("IllegalArgumentException before UnsupportedOperationException", FULL + """
            unit(8, 0, 0) = IllegalArgumentException
            unit(0, 1001, 0) = IllegalArgumentException
            unit(0, 0, 32) = IllegalArgumentException
            unit(7, 1000, 31) = UnsupportedOperationException
            rule(5, 0, 0) = IllegalArgumentException
            rule(0, 8, 0) = IllegalArgumentException
            rule(0, 0, 8) = IllegalArgumentException
            rule(4, 2, 2) = IllegalArgumentException
            rule(0, 7, 7) = UnsupportedOperationException
            own(4, false) = IllegalArgumentException
            own(-1, true) = IllegalArgumentException
            own(3, true) = UnsupportedOperationException
            sign(31) = IllegalArgumentException
            sign(127) = IllegalArgumentException
            sign(126) = UnsupportedOperationException
            """);
    }

    private static void wrongTextBeforeNoRoom() {
        edge("a wrong text before UnsupportedOperationException", FULL + """
            read() = -6
            2 times write "N 1 2|"
            write "N 1 8|"
            read() = -17
            2 times write "N 1 2|"
            read() = UnsupportedOperationException
            read() = 12
            """);
    }

    private static void eachNumberOfACallIsLookedAt() {
        edge("IllegalArgumentException: another number outside its range (one right, the others wrong)", SOME + """
            unit(0, 1001, 32) = IllegalArgumentException
            unit(8, 0, 32) = IllegalArgumentException
            unit(8, 1001, 0) = IllegalArgumentException
            unit(-1, -1, -1) = IllegalArgumentException
            rule(0, 8, 8) = IllegalArgumentException
            rule(3, -1, 10) = IllegalArgumentException
            rule(4, 3, 3) = IllegalArgumentException
            rule(9, 9, 9) = IllegalArgumentException
            """);
    }

    private static void laterCallsBehindRefusedOnes() {
        edge("later calls behind refused ones", SOME + """
            unit(8, 0, 0) = IllegalArgumentException
            unit(1, 2, 4) = 2
            rule(5, 0, 0) = IllegalArgumentException
            own(4, true) = IllegalArgumentException
            rule(1, 0, 1) = 3
            sign(127) = IllegalArgumentException
            write " 2|"
            read() = 4
            order(4, 4) = IllegalArgumentException
            order(4, 0) = 3
            may(0, 0, 0) = IllegalStateException
            may(0, 1, 0) = 1
            asked(0) = 4
            asked(1) = 1
            asked(2) = -1
            mark(1, 17) = IllegalArgumentException
            mark(1, 16) = 2
            mark(1, 8) = 0
            mark(1, 16) = 0
            mark(1, 16) = IllegalStateException
            about(1, 2) = 24
            together(0, 0) = IllegalStateException
            together(0, 2) = 3
            told(1, 4) = 2
            count(3) = 6
            count(4) = 4
            """);
        edge("later calls behind refused ones, without any room", FULL + """
            unit(0, 0, 0) = UnsupportedOperationException
            own(0, true) = UnsupportedOperationException
            sign(10) = UnsupportedOperationException
            may(0, 9, 0) = 0
            asked(0) = -1
            together(9, 0) = 1
            order(1, 11) = 0
            together(9, 0) = 2
            mark(9, 1) = 0
            read() = -6
            count(0) = 10
            count(1) = 12
            count(2) = 0
            count(3) = 5
            """);
    }
}
