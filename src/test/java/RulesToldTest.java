import java.util.NoSuchElementException;

/** Promises 11, 12 and 13. */
public final class RulesToldTest {
    private static final Check CHECK = new Check("promises 11, 12 and 13");

    public static void main(String[] args) {
        rulesThatNeverRefused();
        rulesMoved();
        wrongMoves();
        refusalsTold();
        wrongQuestions();
        CHECK.end();
    }

    private static void rulesThatNeverRefused() {
        FragileRules x = new FragileRules();
        CHECK.due("never(0) without rules", -1, () -> x.never(0));
        CHECK.refused("never(-1)", IllegalArgumentException.class, () -> x.never(-1));
        CHECK.refused("never(least int)", IllegalArgumentException.class, () -> x.never(Integer.MIN_VALUE));
        x.rule(0, 1, 1);
        x.rule(1, 1, 1);
        x.rule(4, 1, 2);
        x.own(1, true);
        x.unit(1, 0, 0);
        x.unit(1, 0, 0);
        CHECK.compare("never(..)", "1 2 3 4", Check.neverRow(x));
        CHECK.due("never(4)", -1, () -> x.never(4));
        CHECK.due("never(largest int)", -1, () -> x.never(Integer.MAX_VALUE));
        x.together(0, 1);
        CHECK.compare("never(..) behind together()", "1 3 4", Check.neverRow(x));
        x.order(4, 0);
        CHECK.compare("never(..) goes by numbers", "1 3 4", Check.neverRow(x));
        x.may(0, 1, 0);
        CHECK.compare("never(..) behind may()", "1 3", Check.neverRow(x));
        x.unit(0, 0, 1);
        CHECK.compare("never(..) behind unit()", "1", Check.neverRow(x));
        x.order(4, 3);
        x.may(0, 1, 0);
        CHECK.compare("never(..) when all refused", "", Check.neverRow(x));
        x.rule(0, 1, 1);
        CHECK.compare("never(..) with one more", "5", Check.neverRow(x));
    }

    private static FragileRules fiveRules() {
        FragileRules x = new FragileRules();
        for (int i = 0; i < 5; i++) {
            x.rule(0, i, i);
        }
        return x;
    }

    private static void rulesMoved() {
        FragileRules x = fiveRules();
        CHECK.compare("places at first", "0 1 2 3 4", Check.placeRow(x));
        CHECK.due("order(2, 4)", 1, () -> x.order(2, 4));
        CHECK.compare("places", "0 4 1 2 3", Check.placeRow(x));
        CHECK.due("order(4, 1)", 2, () -> x.order(4, 1));
        CHECK.compare("places", "0 4 2 1 3", Check.placeRow(x));
        CHECK.due("order(4, 1): where it is", 1, () -> x.order(4, 1));
        CHECK.compare("places", "0 4 2 1 3", Check.placeRow(x));
        CHECK.due("order(2, 0)", 4, () -> x.order(2, 0));
        CHECK.compare("places", "1 0 3 2 4", Check.placeRow(x));
        CHECK.due("order(2, 1)", 0, () -> x.order(2, 1));
        CHECK.compare("places", "0 1 3 2 4", Check.placeRow(x));
        CHECK.due("a rule more", 6, () -> x.rule(0, 6, 6));
        CHECK.compare("places", "0 1 3 2 4 5", Check.placeRow(x));
        CHECK.due("told(4, 1): the numbers stay", 3, () -> x.told(4, 1));
    }

    private static void wrongMoves() {
        FragileRules x = fiveRules();
        for (int rule : new int[] {0, -1, 6, 13, Integer.MIN_VALUE, Integer.MAX_VALUE}) {
            CHECK.refused("order(" + rule + ", 0)", NoSuchElementException.class, () -> x.order(rule, 0));
            CHECK.refused("order(" + rule + ", 5)", NoSuchElementException.class, () -> x.order(rule, 5));
        }
        for (int place : new int[] {-1, 5, 12, Integer.MIN_VALUE, Integer.MAX_VALUE}) {
            CHECK.refused("order(1, " + place + ")", IllegalArgumentException.class, () -> x.order(1, place));
        }
        CHECK.compare("places", "0 1 2 3 4", Check.placeRow(x));

        FragileRules full = new FragileRules();
        for (int i = 0; i < 12; i++) {
            full.own(0, false);
        }
        CHECK.refused("order(12, 12)", IllegalArgumentException.class, () -> full.order(12, 12));
        CHECK.due("order(12, 0)", 11, () -> full.order(12, 0));
        CHECK.due("order(12, 11)", 0, () -> full.order(12, 11));
        CHECK.compare("places", "0 1 2 3 4 5 6 7 8 9 10 11", Check.placeRow(full));
    }

    private static void refusalsTold() {
        FragileRules x = new FragileRules();
        x.rule(2, 1, 3);
        x.rule(4, 1, 16);
        x.unit(1, 31, 0);
        x.unit(1, 31, 0);
        x.may(0, 1, 0);
        x.may(1, 0, 0);
        x.mark(0, 1);
        x.unit(0, 0, 3);
        x.mark(0, 2);
        CHECK.due("told(1, 4)", 2, () -> x.told(1, 4));
        CHECK.due("told(2, 4)", 2, () -> x.told(2, 4));
        CHECK.due("told(2, 0)", 4, () -> x.told(2, 0));
        CHECK.due("told(2, 1)", 1, () -> x.told(2, 1));
        CHECK.due("told(2, 2)", 16, () -> x.told(2, 2));
        CHECK.due("told(2, 3)", 1, () -> x.told(2, 3));
    }

    private static void wrongQuestions() {
        FragileRules x = fiveRules();
        for (int rule : new int[] {0, -1, 6, 13, Integer.MIN_VALUE, Integer.MAX_VALUE}) {
            CHECK.refused("told(" + rule + ", 0)", NoSuchElementException.class, () -> x.told(rule, 0));
            CHECK.refused("told(" + rule + ", 5)", NoSuchElementException.class, () -> x.told(rule, 5));
        }
        for (int what : new int[] {-1, 5, Integer.MIN_VALUE, Integer.MAX_VALUE}) {
            CHECK.refused("told(1, " + what + ")", IllegalArgumentException.class, () -> x.told(1, what));
        }
    }
}
