/** What the document's 'What it is' and 'Terms' say of edges, a run of calls for each sentence. */
public final class EdgeTermsTest {
    private static final Check CHECK = new Check("edges of the terms");

    public static void main(String[] args) {
        anObjectIsUsedFor512Calls();
        ranges();
        rowsOfMay();
        rowsOfTogetherAndMark();
        ownRows();
        whatIsAsked();
        nothingIsAskedOfOtherRows();
        CHECK.end();
    }

    private static void edge(String sentence, String lines) {
        Script.run(CHECK, sentence, lines);
    }

    private static void anObjectIsUsedFor512Calls() {
        FragileRules x = new FragileRules();
        x.unit(0, 0, 0);
        x.unit(0, 0, 0);
        x.own(0, true);
        for (int call = 4; call <= 509; call++) {
            CHECK.due("call " + call + ", may(0, 1, 0)", 1, () -> x.may(0, 1, 0));
        }
        CHECK.due("call 510, count(3)", 506, () -> x.count(3));
        CHECK.due("call 511, told(1, 4)", 506, () -> x.told(1, 4));
        CHECK.due("call 512, together(0, 1)", 0, () -> x.together(0, 1));

        FragileRules texts = new FragileRules();
        for (int call = 1; call <= 511; call += 7) {
            CHECK.due("six signs and a read()", -6, () -> Check.writeAndRead(texts, "N 7 7 "));
        }
        CHECK.due("call 512, read() of no text", 0, texts::read);
    }

    private static void ranges() {
        edge("KINDS are 0 .. 7", """
            unit(0, 0, 0) = 0
            unit(7, 0, 0) = 1
            unit(-1, 0, 0) = IllegalArgumentException
            unit(8, 0, 0) = IllegalArgumentException
            unit(256, 0, 0) = IllegalArgumentException
            unit(min, 0, 0) = IllegalArgumentException
            unit(max, 0, 0) = IllegalArgumentException
            about(0, 0) = 0
            about(1, 0) = 7
            count(0) = 2
            """);
        edge("PLACES 0 .. 9 (0 at the bottom)", """
            2 times unit(0, 0, 0)
            may(0, 1, 0) = 0
            may(0, 1, 9) = 0
            may(0, 1, -1) = IllegalArgumentException
            may(0, 1, 10) = IllegalArgumentException
            may(0, 1, min) = IllegalArgumentException
            may(0, 1, max) = IllegalArgumentException
            count(3) = 2
            """);
        edge("UNITS 0, 1, .. (at most 10)", """
            8 times unit(0, 0, 0)
            unit(0, 0, 0) = 8
            count(0) = 9
            unit(0, 0, 0) = 9
            count(0) = 10
            unit(0, 0, 0) = UnsupportedOperationException
            count(0) = 10
            about(9, 0) = 0
            about(10, 0) = NoSuchElementException
            """);
        edge("a weight 0 .. 1000", """
            unit(0, 0, 0) = 0
            unit(0, 1000, 0) = 1
            unit(0, -1, 0) = IllegalArgumentException
            unit(0, 1001, 0) = IllegalArgumentException
            unit(0, 65536, 0) = IllegalArgumentException
            unit(0, min, 0) = IllegalArgumentException
            unit(0, max, 0) = IllegalArgumentException
            about(0, 1) = 0
            about(1, 1) = 1000
            count(0) = 2
            """);
        edge("MARKS as bits: 1 FRAGILE, 2 UPRIGHT, 4 COLD, 8 DANGEROUS, 16 PAPERS", """
            unit(0, 0, 0) = 0
            unit(0, 0, 31) = 1
            unit(0, 0, 16) = 2
            unit(0, 0, -1) = IllegalArgumentException
            unit(0, 0, 32) = IllegalArgumentException
            unit(0, 0, 33) = IllegalArgumentException
            unit(0, 0, min) = IllegalArgumentException
            unit(0, 0, max) = IllegalArgumentException
            about(0, 2) = 0
            about(1, 2) = 31
            about(2, 2) = 16
            count(0) = 3
            """);
        edge("RULES (at most 12) are numbered 1, 2, .. as they come, and asked in their ORDER", """
            rule(0, 0, 0) = 1
            own(0, false) = 2
            write "N 0 0|"
            read() = 3
            8 times rule(0, 0, 0)
            own(0, false) = 12
            count(1) = 12
            rule(0, 0, 0) = UnsupportedOperationException
            own(0, false) = UnsupportedOperationException
            write "N 0 0|"
            read() = UnsupportedOperationException
            count(1) = 12
            told(1, 3) = 0
            told(12, 3) = 11
            told(0, 3) = NoSuchElementException
            told(13, 3) = NoSuchElementException
            """);
    }

    private static void rowsOfMay() {
        edge("0 NEVER ABOVE: a unit of kind a never above one of kind b", """
            rule(0, 0, 7)
            rule(0, 7, 7)
            unit(0, 0, 0) = 0
            unit(7, 0, 0) = 1
            unit(7, 0, 0) = 2
            unit(0, 0, 0) = 3
            may(1, 0, 0) = 1
            may(0, 1, 0) = 0
            may(1, 2, 0) = 2
            may(0, 3, 0) = 0
            """);
        edge("2 BEARS: what stands above a unit of kind a has a weight of at most 10 * b", """
            rule(2, 0, 0)
            rule(2, 7, 99)
            rule(2, 3, 1)
            unit(0, 1000, 0) = 0
            unit(7, 1000, 0) = 1
            unit(3, 1000, 0) = 2
            unit(1, 0, 0) = 3
            unit(1, 1, 0) = 4
            unit(1, 10, 0) = 5
            unit(1, 11, 0) = 6
            unit(1, 990, 0) = 7
            unit(1, 991, 0) = 8
            may(0, 3, 0) = 0
            may(0, 4, 0) = 1
            may(1, 7, 0) = 0
            may(1, 8, 0) = 2
            may(1, 0, 0) = 2
            may(2, 5, 0) = 0
            may(2, 6, 0) = 3
            may(8, 0, 0) = 0
            """);
        edge("3 BELOW: a unit of kind a at places below b alone", """
            rule(3, 0, 0)
            rule(3, 1, 1)
            rule(3, 7, 9)
            unit(0, 0, 0) = 0
            unit(1, 0, 0) = 1
            unit(7, 0, 0) = 2
            unit(2, 0, 0) = 3
            may(3, 0, 0) = 1
            may(3, 0, 9) = 1
            may(3, 1, 0) = 0
            may(3, 1, 1) = 2
            may(3, 2, 0) = 0
            may(3, 2, 8) = 0
            may(3, 2, 9) = 3
            may(0, 3, 9) = 0
            """);
    }

    private static void rowsOfTogetherAndMark() {
        edge("1 APART: units of kinds a and b never together (also the other way round)", """
            rule(1, 0, 7)
            rule(1, 3, 3)
            unit(0, 0, 0) = 0
            unit(7, 0, 0) = 1
            unit(3, 0, 0) = 2
            unit(3, 0, 0) = 3
            unit(0, 0, 0) = 4
            together(0, 1) = 1
            together(1, 0) = 1
            together(0, 4) = 0
            together(2, 3) = 2
            together(3, 2) = 2
            together(0, 2) = 0
            together(2, 1) = 0
            """);
        edge("4 NEEDS: a unit may have mark a (1, 2, 4, 8, 16) only if it has mark b", """
            rule(4, 1, 16)
            rule(4, 16, 8)
            unit(0, 0, 0) = 0
            mark(0, 1) = 1
            mark(0, 16) = 2
            mark(0, 8) = 0
            mark(0, 1) = 1
            mark(0, 16) = 0
            mark(0, 1) = 0
            about(0, 2) = 25
            unit(0, 0, 1) = -2
            unit(0, 0, 17) = -3
            unit(0, 0, 25) = 1
            """);
    }

    private static void ownRows() {
        edge("5 OWN 0 nothing above a FRAGILE unit", """
            own(0, false)
            unit(0, 0, 1) = 0
            unit(0, 0, 30) = 1
            may(0, 1, 0) = 1
            may(1, 0, 0) = 0
            """);
        edge("5 OWN 1 an UPRIGHT one only at place 0", """
            own(1, false)
            unit(0, 0, 2) = 0
            unit(0, 0, 29) = 1
            may(1, 0, 0) = 0
            may(1, 0, 1) = 1
            may(1, 0, 9) = 1
            may(0, 1, 1) = 0
            may(0, 1, 9) = 0
            """);
        edge("5 OWN 2 a DANGEROUS one only together with its own kind", """
            own(2, false)
            unit(0, 0, 8) = 0
            unit(0, 0, 23) = 1
            unit(7, 0, 23) = 2
            unit(7, 0, 8) = 3
            together(0, 1) = 0
            together(1, 0) = 0
            together(0, 2) = 1
            together(2, 0) = 1
            together(0, 3) = 1
            together(1, 2) = 0
            """);
        edge("5 OWN 3 a COLD one never below another kind", """
            own(3, false)
            unit(0, 0, 4) = 0
            unit(0, 0, 27) = 1
            unit(7, 0, 27) = 2
            may(0, 1, 0) = 0
            may(0, 2, 0) = 1
            may(2, 0, 0) = 0
            may(1, 2, 0) = 0
            """);
        edge("b is 1 if it FAILS: it refuses whatever it is asked", """
            own(0, true) = 1
            own(2, true) = 2
            unit(0, 0, 0) = 0
            unit(0, 0, 0) = 1
            may(0, 1, 0) = 1
            together(0, 1) = 2
            order(1, 1) = 0
            own(1, true) = 3
            own(3, true) = 4
            order(3, 0) = 2
            may(0, 1, 0) = 3
            order(4, 0) = 3
            may(0, 1, 0) = 4
            told(1, 2) = 1
            """);
    }

    private static void whatIsAsked() {
        String all = """
            rule(0, 7, 7) = 1
            rule(1, 7, 7) = 2
            rule(2, 7, 0) = 3
            rule(3, 7, 0) = 4
            rule(4, 1, 2) = 5
            own(0, false) = 6
            own(1, false) = 7
            own(2, false) = 8
            own(3, false) = 9
            2 times unit(0, 0, 0)
            """;
        edge("ASKING MAY: rows 0, 2, 3 (of the above one) and 5 (0, 1 of the above one, 3 of the one below)", all + """
            may(0, 1, 0) = 0
            asked(0) = 1
            asked(1) = 3
            asked(2) = 4
            asked(3) = 6
            asked(4) = 7
            asked(5) = 9
            asked(6) = -1
            """);
        edge("TOGETHER (two units, both ways): rows 1 and 5 (2)", all + """
            together(0, 1) = 0
            asked(0) = 2
            asked(1) = 8
            asked(2) = -1
            """);
        edge("MARK: row 4", all + """
            mark(0, 16) = 0
            asked(0) = 5
            asked(1) = -1
            """);
    }

    private static void nothingIsAskedOfOtherRows() {
        edge("Of rules of other rows, and own ones of other doings, nothing is asked, even if they fail (MAY)", """
            own(2, true)
            rule(1, 0, 0)
            rule(4, 1, 2)
            2 times unit(0, 1000, 0)
            may(0, 1, 9) = 0
            asked(0) = -1
            never(0) = 1
            """);
        edge("Of rules of other rows, and own ones of other doings, nothing is asked, even if they fail (TOGETHER)", """
            own(0, true)
            own(1, true)
            own(3, true)
            rule(0, 0, 0)
            rule(2, 0, 0)
            rule(3, 0, 0)
            rule(4, 1, 2)
            2 times unit(0, 1000, 0)
            together(0, 1) = 0
            asked(0) = -1
            never(0) = 1
            """);
        edge("Of rules of other rows, and own ones of other doings, nothing is asked, even if they fail (MARK)", """
            own(0, true)
            own(1, true)
            own(2, true)
            own(3, true)
            rule(0, 0, 0)
            rule(1, 0, 0)
            rule(2, 0, 0)
            rule(3, 0, 0)
            unit(0, 1000, 31) = 0
            unit(0, 1000, 0) = 1
            mark(1, 1) = 0
            mark(1, 16) = 0
            asked(0) = -1
            never(0) = 1
            """);
    }
}
