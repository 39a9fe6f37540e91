/** Promises 3 and 4. */
public final class RuleTest {
    private static final Check CHECK = new Check("promises 3 and 4");

    public static void main(String[] args) {
        rulesOfEachRow();
        wrongRules();
        ownRules();
        noRoom();
        CHECK.end();
    }

    private static void isTold(FragileRules x, int rule, int row, int a, int b) {
        CHECK.due("told(" + rule + ", 0)", row, () -> x.told(rule, 0));
        CHECK.due("told(" + rule + ", 1)", a, () -> x.told(rule, 1));
        CHECK.due("told(" + rule + ", 2)", b, () -> x.told(rule, 2));
        CHECK.due("told(" + rule + ", 3)", rule - 1, () -> x.told(rule, 3));
        CHECK.due("told(" + rule + ", 4)", 0, () -> x.told(rule, 4));
    }

    private static void rulesOfEachRow() {
        int[][] right = {{0, 0, 7}, {0, 7, 0}, {1, 7, 7}, {1, 0, 0}, {2, 7, 99}, {2, 0, 0}, {3, 7, 9}, {3, 0, 0},
            {4, 1, 16}, {4, 16, 8}, {4, 2, 4}, {4, 8, 1}};
        FragileRules x = new FragileRules();
        for (int i = 0; i < right.length; i++) {
            int[] r = right[i];
            CHECK.due("rule(" + r[0] + ", " + r[1] + ", " + r[2] + ")", i + 1, () -> x.rule(r[0], r[1], r[2]));
            isTold(x, i + 1, r[0], r[1], r[2]);
        }
        CHECK.due("count(1)", 12, () -> x.count(1));
    }

    private static void wrongRules() {
        int[][] wrong = {{-1, 0, 0}, {5, 0, 0}, {6, 1, 2}, {0, -1, 0}, {0, 8, 0}, {0, 0, -1}, {0, 0, 8},
            {1, -1, 0}, {1, 8, 0}, {1, 0, -1}, {1, 0, 8}, {2, -1, 0}, {2, 8, 0}, {2, 0, -1}, {2, 0, 100},
            {3, -1, 0}, {3, 8, 0}, {3, 0, -1}, {3, 0, 10}, {4, 0, 1}, {4, 1, 0}, {4, 3, 1}, {4, 1, 3}, {4, 32, 1},
            {4, 1, 32}, {4, 1, 1}, {4, 16, 16}, {4, -1, 1}, {4, 1, Integer.MIN_VALUE}, {4, Integer.MIN_VALUE, 1},
            {Integer.MAX_VALUE, 0, 0}};
        FragileRules x = new FragileRules();
        for (int[] r : wrong) {
            CHECK.refused("rule(" + r[0] + ", " + r[1] + ", " + r[2] + ")", IllegalArgumentException.class,
                () -> x.rule(r[0], r[1], r[2]));
        }
        CHECK.due("count(1) behind wrong rules", 0, () -> x.count(1));
    }

    private static void ownRules() {
        FragileRules x = new FragileRules();
        CHECK.refused("own(-1, false)", IllegalArgumentException.class, () -> x.own(-1, false));
        CHECK.refused("own(4, true)", IllegalArgumentException.class, () -> x.own(4, true));
        CHECK.refused("own(least int, true)", IllegalArgumentException.class, () -> x.own(Integer.MIN_VALUE, true));
        CHECK.due("rule(0, 1, 2)", 1, () -> x.rule(0, 1, 2));
        for (int does = 0; does <= 3; does++) {
            int d = does;
            CHECK.due("own(" + d + ", false)", 2 * d + 2, () -> x.own(d, false));
            isTold(x, 2 * d + 2, 5, d, 0);
            CHECK.due("own(" + d + ", true)", 2 * d + 3, () -> x.own(d, true));
            isTold(x, 2 * d + 3, 5, d, 1);
        }
    }

    private static void noRoom() {
        FragileRules x = new FragileRules();
        for (int i = 1; i <= 12; i++) {
            x.rule(0, 1, 2);
        }
        CHECK.refused("a 13th rule", UnsupportedOperationException.class, () -> x.rule(0, 0, 0));
        CHECK.refused("a 13th rule, wrong", IllegalArgumentException.class, () -> x.rule(4, 1, 1));
        CHECK.refused("a 13th rule, own", UnsupportedOperationException.class, () -> x.own(0, false));
        CHECK.refused("a 13th rule, own and wrong", IllegalArgumentException.class, () -> x.own(4, false));
        CHECK.due("count(1)", 12, () -> x.count(1));
    }
}
