/** Promise 2. */
public final class UnitTest {
    private static final Check CHECK = new Check("promise 2");

    public static void main(String[] args) {
        numbersAndEdges();
        outsideTheRanges();
        noRoom();
        refusedMarks();
        marksAreAskedLeastFirst();
        rulesAreAskedInTheirOrder();
        onlyNeedsAreAsked();
        CHECK.end();
    }

    private static void numbersAndEdges() {
        FragileRules x = new FragileRules();
        CHECK.due("unit(0, 0, 0)", 0, () -> x.unit(0, 0, 0));
        CHECK.due("unit(7, 1000, 31)", 1, () -> x.unit(7, 1000, 31));
        CHECK.due("unit(3, 55, 20)", 2, () -> x.unit(3, 55, 20));
        CHECK.due("count(0)", 3, () -> x.count(0));
        CHECK.due("about(1, 0)", 7, () -> x.about(1, 0));
        CHECK.due("about(1, 1)", 1000, () -> x.about(1, 1));
        CHECK.due("about(1, 2)", 31, () -> x.about(1, 2));
        CHECK.due("about(0, 2)", 0, () -> x.about(0, 2));
    }

    private static void outsideTheRanges() {
        FragileRules x = new FragileRules();
        int[][] wrong = {{-1, 0, 0}, {8, 0, 0}, {0, -1, 0}, {0, 1001, 0}, {0, 0, -1}, {0, 0, 32},
            {Integer.MIN_VALUE, 0, 0}, {0, Integer.MAX_VALUE, 0}, {0, 0, Integer.MIN_VALUE}};
        for (int[] u : wrong) {
            CHECK.refused("unit(" + u[0] + ", " + u[1] + ", " + u[2] + ")", IllegalArgumentException.class,
                () -> x.unit(u[0], u[1], u[2]));
        }
        CHECK.due("count(0) behind refused units", 0, () -> x.count(0));
    }

    private static void noRoom() {
        FragileRules x = new FragileRules();
        x.rule(4, 1, 2);
        for (int i = 0; i < 10; i++) {
            int number = i;
            CHECK.due("unit " + i, number, () -> x.unit(number % 8, number, 0));
        }
        CHECK.refused("an 11th unit", UnsupportedOperationException.class, () -> x.unit(0, 0, 0));
        CHECK.refused("an 11th unit, wrong", IllegalArgumentException.class, () -> x.unit(8, 0, 0));
        CHECK.refused("an 11th unit that a rule would refuse", UnsupportedOperationException.class,
            () -> x.unit(0, 0, 1));
        CHECK.due("told(1, 4): no rule was asked of it", 0, () -> x.told(1, 4));
        CHECK.due("count(0)", 10, () -> x.count(0));
        CHECK.due("about(9, 1)", 9, () -> x.about(9, 1));
    }

    private static void refusedMarks() {
        FragileRules x = new FragileRules();
        x.rule(0, 0, 0);
        x.rule(4, 8, 16);
        CHECK.due("unit with 8 alone", -3, () -> x.unit(0, 0, 8));
        CHECK.due("count(0): there is none", 0, () -> x.count(0));
        CHECK.due("told(2, 4): the refusal counts", 1, () -> x.told(2, 4));
        CHECK.compare("never(..)", "1", Check.neverRow(x));
        CHECK.due("count(3): no verdict", 0, () -> x.count(3));
        CHECK.due("count(4): no verdict", 0, () -> x.count(4));
        CHECK.due("unit with 8 and 16: asked with the others", 0, () -> x.unit(0, 0, 24));
        CHECK.due("unit with 8, 1, 2, 4", -3, () -> x.unit(0, 0, 15));
        CHECK.due("told(2, 4)", 2, () -> x.told(2, 4));
        CHECK.due("unit with 16 alone", 1, () -> x.unit(2, 3, 16));
        CHECK.due("about(1, 0)", 2, () -> x.about(1, 0));
        CHECK.due("about(0, 2)", 24, () -> x.about(0, 2));
    }

    private static void marksAreAskedLeastFirst() {
        FragileRules x = new FragileRules();
        x.rule(4, 16, 8);
        x.rule(4, 4, 8);
        x.rule(4, 2, 8);
        CHECK.due("unit with 2, 4, 16: mark 2 comes first", -4, () -> x.unit(0, 0, 22));
        CHECK.due("told(1, 4): one refusal alone", 0, () -> x.told(1, 4));
        CHECK.due("told(2, 4): one refusal alone", 0, () -> x.told(2, 4));
        CHECK.due("told(3, 4)", 1, () -> x.told(3, 4));
        CHECK.due("unit with 4, 16", -3, () -> x.unit(0, 0, 20));
        CHECK.due("unit with 16", -2, () -> x.unit(0, 0, 16));
        CHECK.due("unit with 1", 0, () -> x.unit(0, 0, 1));
    }

    private static void rulesAreAskedInTheirOrder() {
        FragileRules x = new FragileRules();
        x.rule(4, 1, 2);
        x.rule(4, 1, 4);
        CHECK.due("unit with 1", -2, () -> x.unit(0, 0, 1));
        x.order(2, 0);
        CHECK.due("unit with 1 behind order(2, 0)", -3, () -> x.unit(0, 0, 1));
        CHECK.due("unit with 1 and 4", -2, () -> x.unit(0, 0, 5));
    }

    private static void onlyNeedsAreAsked() {
        FragileRules x = new FragileRules();
        for (int does = 0; does <= 3; does++) {
            x.own(does, true);
        }
        x.rule(0, 0, 0);
        x.rule(1, 0, 0);
        x.rule(2, 0, 0);
        x.rule(3, 0, 0);
        CHECK.due("unit with all marks", 0, () -> x.unit(0, 1000, 31));
        CHECK.compare("never(..)", "1 2 3 4 5 6 7 8", Check.neverRow(x));
    }
}
