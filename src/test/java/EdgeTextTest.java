/** The edges of promises 5 and 6 and of the term TEXT, a run of calls for each sentence. */
public final class EdgeTextTest {
    private static final Check CHECK = new Check("edges of promises 5 and 6");

    public static void main(String[] args) {
        aSignOfTheText();
        everySignFromBelowToAbove();
        atMost200();
        aTextIsLines();
        everySignAtEachPlace();
        itsLengthIfItEndsTooEarly();
        howManyRulesThereAreThen();
        noRuleComes();
        theSignsAreGone();
        moreThan12Rules();
        CHECK.end();
    }

    private static void edge(String sentence, String lines) {
        Script.run(CHECK, sentence, lines);
    }

    private static void aSignOfTheText() {
        edge("A sign of the text (10 or 32 .. 126)", """
            sign(10) = 0
            sign(32) = 0
            sign(126) = 0
            sign(9) = IllegalArgumentException
            sign(11) = IllegalArgumentException
            sign(13) = IllegalArgumentException
            sign(31) = IllegalArgumentException
            sign(127) = IllegalArgumentException
            sign(0) = IllegalArgumentException
            sign(-1) = IllegalArgumentException
            sign(-10) = IllegalArgumentException
            sign(334) = IllegalArgumentException
            sign(65614) = IllegalArgumentException
            sign(65546) = IllegalArgumentException
            sign(min) = IllegalArgumentException
            sign(max) = IllegalArgumentException
            count(2) = 3
            """);
        edge("A sign that is refused does not come into the text", """
            write "N 1"
            sign(9) = IllegalArgumentException
            write " 2"
            sign(127) = IllegalArgumentException
            sign(10) = 0
            count(2) = 6
            read() = 1
            """);
    }

    private static void everySignFromBelowToAbove() {
        FragileRules x = new FragileRules();
        int taken = 0;
        for (int c = -3; c <= 260; c++) {
            int sign = c;
            if (c == 10 || c >= 32 && c <= 126) {
                taken++;
                CHECK.due("sign(" + c + ")", 0, () -> put(x, sign));
            } else {
                CHECK.refused("sign(" + c + ")", IllegalArgumentException.class, () -> put(x, sign));
            }
        }
        CHECK.compare("count(2)", String.valueOf(taken), String.valueOf(x.count(2)));
    }

    private static int put(FragileRules x, int c) {
        x.sign(c);
        return 0;
    }

    private static void atMost200() {
        edge("A sign of the text (at most 200)", """
            33 times write "N 1 2|"
            write "N"
            count(2) = 199
            sign(32) = 0
            count(2) = 200
            sign(51) = UnsupportedOperationException
            sign(10) = UnsupportedOperationException
            sign(9) = IllegalArgumentException
            sign(127) = IllegalArgumentException
            count(2) = 200
            read() = -201
            count(2) = 0
            sign(51) = 0
            count(2) = 1
            """);
        edge("a full text that is right, but has no room for its rules", """
            31 times write "N 1 2|"
            2 times write "B 1 23|"
            count(2) = 200
            read() = UnsupportedOperationException
            count(1) = 0
            """);
        edge("a full text that is wrong at its last sign", """
            31 times write "N 1 2|"
            write "B 1 23|"
            write "B 1 234"
            count(2) = 200
            read() = -200
            count(1) = 0
            """);
    }

    /** A line alone on a new object: the rule that comes of it. */
    private static void right(String line, int row, int a, int b) {
        edge("A TEXT is lines: " + line, "write \"" + line + "\"\nread() = 1\ncount(1) = 1\ncount(2) = 0\ntold(1, 0) = "
            + row + "\ntold(1, 1) = " + a + "\ntold(1, 2) = " + b + "\ntold(1, 3) = 0\ntold(1, 4) = 0\n");
    }

    private static void wrong(String text, int place) {
        edge("The PLACE of a wrong text: " + text, "rule(0, 0, 0) = 1\nwrite \"" + text + "\"\nread() = "
            + (-1 - place) + "\ncount(1) = 1\ncount(2) = 0\nread() = 1\n");
    }

    private static void aTextIsLines() {
        right("N 0 0|", 0, 0, 0);
        right("N 7 7|", 0, 7, 7);
        right("A 0 0|", 1, 0, 0);
        right("A 7 7|", 1, 7, 7);
        right("B 0 0|", 2, 0, 0);
        right("B 7 9|", 2, 7, 9);
        right("B 7 10|", 2, 7, 10);
        right("B 7 90|", 2, 7, 90);
        right("B 7 99|", 2, 7, 99);
        right("L 0 0|", 3, 0, 0);
        right("L 7 9|", 3, 7, 9);
        wrong("N 8 0|", 2);
        wrong("A 8 0|", 2);
        wrong("B 8 0|", 2);
        wrong("L 8 0|", 2);
        wrong("N 0 8|", 4);
        wrong("A 0 8|", 4);
        wrong("N 0 10|", 5);
        wrong("A 0 10|", 5);
        wrong("B 0 100|", 6);
        wrong("B 0 990|", 6);
        wrong("L 0 10|", 5);
        wrong("N 0 00|", 5);
        wrong("A 0 01|", 5);
        wrong("B 0 00|", 5);
        wrong("B 0 01|", 5);
        wrong("B 0 09|", 5);
        wrong("L 0 00|", 5);
        wrong("N 00 0|", 3);
        wrong("B 10 0|", 3);
        wrong("|", 0);
        wrong("N 0 0||", 6);
        wrong("N 0 0 |", 5);
        wrong(" N 0 0|", 0);
        wrong("B 0 99|N 0 0|x", 13);
        wrong("N 0 0|N 0 8|N 8 0|", 10);
    }

    /** At each place of each line, every sign that may be written: wrong there, but for those that the term names. */
    private static void everySignAtEachPlace() {
        String[] starts = {"", "N", "A", "B", "L", "N ", "B 3", "N 3 ", "A 3 ", "B 3 ", "L 3 ", "N 3 0", "A 3 7",
            "B 3 0", "B 3 1", "B 3 9", "L 3 9", "B 3 10", "B 3 99"};
        String[] goesOn = {"NABL", " ", " ", " ", " ", "01234567", " ", "01234567", "01234567", "0123456789",
            "0123456789", "\n", "\n", "\n", "0123456789\n", "0123456789\n", "\n", "\n", "\n"};
        for (int i = 0; i < starts.length; i++) {
            for (int c = 31; c <= 126; c++) {
                char sign = c == 31 ? '\n' : (char) c;
                String text = starts[i] + sign;
                boolean isWhole = text.endsWith("\n");
                boolean isRight = goesOn[i].indexOf(sign) >= 0;
                int due = isRight && isWhole ? 1 : -1 - (isRight ? text.length() : starts[i].length());
                CHECK.due("read() of '" + text.replace('\n', '|') + "'", due,
                    () -> Check.writeAndRead(new FragileRules(), text));
            }
        }
    }

    private static void itsLengthIfItEndsTooEarly() {
        for (String line : new String[] {"N 0 7|", "A 7 0|", "B 7 9|", "B 7 99|", "L 7 9|"}) {
            for (int length = 1; length < line.length(); length++) {
                wrong(line.substring(0, length), length);
                wrong("L 1 2|" + line.substring(0, length), 6 + length);
            }
        }
    }

    private static void howManyRulesThereAreThen() {
        edge("The text is read: how many rules there are then (no text)", """
            read() = 0
            read() = 0
            rule(0, 0, 0) = 1
            read() = 1
            count(1) = 1
            """);
        edge("The text is read: how many rules there are then (behind others)", """
            rule(0, 0, 0) = 1
            own(3, true) = 2
            order(2, 0) = 1
            write "B 7 99|L 0 0|"
            count(2) = 13
            read() = 4
            told(3, 0) = 2
            told(3, 3) = 2
            told(4, 0) = 3
            told(4, 3) = 3
            told(2, 3) = 0
            write "A 1 2|"
            read() = 5
            """);
        edge("The text is read: how many rules there are then (12)", """
            12 times write "B 7 99|"
            count(2) = 84
            read() = 12
            told(12, 0) = 2
            told(12, 1) = 7
            told(12, 2) = 99
            read() = 12
            """);
    }

    private static void noRuleComes() {
        edge("or -1 less the place at which it is wrong, and no rule comes", """
            write "N 1 2|A 3 4|B 5 6|L 7 8|x"
            read() = -25
            count(1) = 0
            told(1, 0) = NoSuchElementException
            never(0) = -1
            write "N 1 2|"
            read() = 1
            """);
    }

    private static void theSignsAreGone() {
        edge("The signs are gone (behind a right text)", """
            write "N 1 2|"
            read() = 1
            count(2) = 0
            read() = 1
            """);
        edge("The signs are gone (behind a wrong text)", """
            write "N 1 2|N"
            read() = -8
            count(2) = 0
            write " 1 2|"
            read() = -1
            read() = 0
            """);
        edge("The signs are gone (behind a text without room)", """
            12 times rule(0, 0, 0)
            write "N 1 2|"
            read() = UnsupportedOperationException
            count(2) = 0
            read() = 12
            write "x"
            read() = -1
            """);
    }

    private static void moreThan12Rules() {
        edge("UnsupportedOperationException: more than 12 rules; none comes then (13 of a text)", """
            13 times write "N 1 2|"
            read() = UnsupportedOperationException
            count(1) = 0
            12 times write "N 1 2|"
            read() = 12
            """);
        edge("UnsupportedOperationException: more than 12 rules; none comes then (11 and 2)", """
            11 times rule(0, 0, 0)
            2 times write "A 1 2|"
            read() = UnsupportedOperationException
            count(1) = 11
            told(12, 0) = NoSuchElementException
            write "A 1 2|"
            read() = 12
            told(12, 0) = 1
            write "A 1 2|"
            read() = UnsupportedOperationException
            read() = 12
            """);
        edge("UnsupportedOperationException (behind a right text)", """
            12 times rule(0, 0, 0)
            write "A 1 2|x"
            read() = -7
            write "A 1 2"
            read() = -6
            33 times write "N 1 2|"
            write "N7"
            read() = -200
            count(1) = 12
            """);
    }
}
