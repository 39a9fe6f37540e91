import java.util.NoSuchElementException;

/** Promises 7, 8 and 9. */
public final class VerdictTest {
    private static final Check CHECK = new Check("promises 7, 8 and 9");

    public static void main(String[] args) {
        neverAbove();
        bears();
        below();
        nothingOnFragile();
        uprightAtTheBottom();
        coldUnderItsKind();
        apart();
        dangerousWithItsKind();
        needs();
        failingRules();
        firstInTheOrder();
        refusedMay();
        refusedTogether();
        refusedMark();
        CHECK.end();
    }

    private static void neverAbove() {
        FragileRules x = new FragileRules();
        x.rule(0, 1, 2);
        x.rule(0, 3, 3);
        x.unit(1, 0, 0);
        x.unit(2, 0, 0);
        x.unit(3, 0, 0);
        x.unit(3, 0, 0);
        CHECK.due("kind 1 above kind 2", 1, () -> x.may(1, 0, 0));
        CHECK.due("kind 2 above kind 1", 0, () -> x.may(0, 1, 0));
        CHECK.due("kind 3 above kind 3", 2, () -> x.may(2, 3, 9));
        CHECK.due("kind 1 above kind 3", 0, () -> x.may(2, 0, 9));
        CHECK.due("kind 3 above kind 2", 0, () -> x.may(1, 2, 9));
    }

    private static void bears() {
        FragileRules x = new FragileRules();
        x.rule(2, 4, 12);
        x.rule(2, 5, 0);
        x.unit(4, 1000, 0);
        x.unit(0, 120, 0);
        x.unit(0, 121, 0);
        x.unit(5, 0, 0);
        x.unit(5, 1, 0);
        CHECK.due("120 above", 0, () -> x.may(0, 1, 0));
        CHECK.due("121 above", 1, () -> x.may(0, 2, 0));
        CHECK.due("the heavy one above", 0, () -> x.may(2, 0, 0));
        CHECK.due("0 above what bears 0", 0, () -> x.may(4, 3, 0));
        CHECK.due("1 above what bears 0", 2, () -> x.may(3, 4, 0));
    }

    private static void below() {
        FragileRules x = new FragileRules();
        x.rule(3, 6, 3);
        x.rule(3, 7, 0);
        x.unit(6, 0, 0);
        x.unit(7, 0, 0);
        x.unit(0, 0, 0);
        CHECK.due("at 2 below 3", 0, () -> x.may(2, 0, 2));
        CHECK.due("at 3", 1, () -> x.may(2, 0, 3));
        CHECK.due("at 9", 1, () -> x.may(2, 0, 9));
        CHECK.due("of the one below nothing is asked", 0, () -> x.may(0, 2, 9));
        CHECK.due("at 0, below 0 alone", 2, () -> x.may(2, 1, 0));
    }

    private static void nothingOnFragile() {
        FragileRules x = new FragileRules();
        x.own(0, false);
        x.unit(0, 0, 1);
        x.unit(0, 0, 30);
        CHECK.due("above a FRAGILE one", 1, () -> x.may(0, 1, 0));
        CHECK.due("a FRAGILE one above", 0, () -> x.may(1, 0, 0));
    }

    private static void uprightAtTheBottom() {
        FragileRules x = new FragileRules();
        x.own(1, false);
        x.unit(0, 0, 2);
        x.unit(0, 0, 29);
        CHECK.due("an UPRIGHT one at 0", 0, () -> x.may(1, 0, 0));
        CHECK.due("an UPRIGHT one at 1", 1, () -> x.may(1, 0, 1));
        CHECK.due("another one at 1", 0, () -> x.may(0, 1, 1));
    }

    private static void coldUnderItsKind() {
        FragileRules x = new FragileRules();
        x.own(3, false);
        x.unit(1, 0, 4);
        x.unit(2, 0, 27);
        x.unit(1, 0, 0);
        CHECK.due("another kind above a COLD one", 1, () -> x.may(0, 1, 0));
        CHECK.due("its kind above a COLD one", 0, () -> x.may(0, 2, 0));
        CHECK.due("a COLD one above another kind", 0, () -> x.may(1, 0, 0));
    }

    private static void apart() {
        FragileRules x = new FragileRules();
        x.rule(1, 1, 2);
        x.rule(1, 3, 3);
        x.unit(1, 0, 0);
        x.unit(2, 0, 0);
        x.unit(3, 0, 0);
        x.unit(3, 0, 0);
        x.unit(1, 0, 0);
        CHECK.due("kinds 1 and 2", 1, () -> x.together(0, 1));
        CHECK.due("kinds 2 and 1", 1, () -> x.together(1, 0));
        CHECK.due("kinds 1 and 1", 0, () -> x.together(0, 4));
        CHECK.due("kinds 3 and 3", 2, () -> x.together(2, 3));
        CHECK.due("kinds 1 and 3", 0, () -> x.together(0, 2));
        CHECK.due("kinds 3 and 2", 0, () -> x.together(2, 1));
    }

    private static void dangerousWithItsKind() {
        FragileRules x = new FragileRules();
        x.own(2, false);
        x.unit(1, 0, 8);
        x.unit(2, 0, 23);
        x.unit(1, 0, 0);
        x.unit(3, 0, 0);
        CHECK.due("with another kind", 1, () -> x.together(0, 1));
        CHECK.due("another kind with it", 1, () -> x.together(1, 0));
        CHECK.due("with its kind", 0, () -> x.together(0, 2));
        CHECK.due("its kind with it", 0, () -> x.together(2, 0));
        CHECK.due("two others", 0, () -> x.together(1, 3));
    }

    private static void needs() {
        FragileRules x = new FragileRules();
        x.unit(0, 0, 0);
        x.unit(0, 0, 8);
        x.rule(4, 8, 16);
        x.rule(4, 2, 1);
        CHECK.due("mark(0, 8)", 1, () -> x.mark(0, 8));
        CHECK.due("about(0, 2): it does not get it", 0, () -> x.about(0, 2));
        CHECK.due("mark(0, 2)", 2, () -> x.mark(0, 2));
        CHECK.due("mark(0, 4)", 0, () -> x.mark(0, 4));
        CHECK.due("mark(0, 16)", 0, () -> x.mark(0, 16));
        CHECK.due("mark(0, 8)", 0, () -> x.mark(0, 8));
        CHECK.due("mark(0, 1)", 0, () -> x.mark(0, 1));
        CHECK.due("mark(0, 2)", 0, () -> x.mark(0, 2));
        CHECK.due("about(0, 2)", 31, () -> x.about(0, 2));
        CHECK.due("a mark from before the rule is not asked for again", 0, () -> x.mark(1, 4));
        CHECK.due("about(1, 2)", 12, () -> x.about(1, 2));
    }

    private static void failingRules() {
        for (int does = 0; does <= 3; does++) {
            FragileRules x = new FragileRules();
            x.own(does, true);
            x.unit(1, 0, 0);
            x.unit(1, 0, 0);
            boolean asksTogether = does == 2;
            CHECK.due("may() with failing " + does, asksTogether ? 0 : 1, () -> x.may(0, 1, 0));
            CHECK.due("together() with failing " + does, asksTogether ? 1 : 0, () -> x.together(0, 1));
            CHECK.due("mark() with failing " + does, 0, () -> x.mark(0, 1));
        }
    }

    private static void firstInTheOrder() {
        FragileRules x = new FragileRules();
        x.rule(0, 1, 2);
        x.own(0, true);
        x.rule(1, 1, 2);
        x.own(2, true);
        x.unit(2, 0, 0);
        x.unit(1, 0, 0);
        CHECK.due("may(0, 1, 0)", 1, () -> x.may(0, 1, 0));
        CHECK.due("together(0, 1)", 3, () -> x.together(0, 1));
        x.order(4, 0);
        x.order(2, 0);
        CHECK.due("may(0, 1, 0) behind order()", 2, () -> x.may(0, 1, 0));
        CHECK.due("together(0, 1) behind order()", 4, () -> x.together(0, 1));
        CHECK.due("told(1, 4)", 1, () -> x.told(1, 4));
    }

    private static void nothingHappened(FragileRules x) {
        CHECK.due("count(3) behind refused calls", 0, () -> x.count(3));
        CHECK.due("count(4) behind refused calls", 0, () -> x.count(4));
        CHECK.due("asked(0) behind refused calls", -1, () -> x.asked(0));
    }

    private static void refusedMay() {
        FragileRules x = new FragileRules();
        x.own(0, true);
        x.unit(0, 0, 0);
        x.unit(0, 0, 0);
        CHECK.refused("may(-1, 0, 0)", NoSuchElementException.class, () -> x.may(-1, 0, 0));
        CHECK.refused("may(0, -1, 0)", NoSuchElementException.class, () -> x.may(0, -1, 0));
        CHECK.refused("may(2, 0, 0)", NoSuchElementException.class, () -> x.may(2, 0, 0));
        CHECK.refused("may(0, 2, 0)", NoSuchElementException.class, () -> x.may(0, 2, 0));
        CHECK.refused("may(10, 11, 0)", NoSuchElementException.class, () -> x.may(10, 11, 0));
        CHECK.refused("may(2, 2, 10)", NoSuchElementException.class, () -> x.may(2, 2, 10));
        CHECK.refused("may(0, 1, -1)", IllegalArgumentException.class, () -> x.may(0, 1, -1));
        CHECK.refused("may(0, 1, 10)", IllegalArgumentException.class, () -> x.may(0, 1, 10));
        CHECK.refused("may(0, 0, 10)", IllegalArgumentException.class, () -> x.may(0, 0, 10));
        CHECK.refused("may(1, 1, 9)", IllegalStateException.class, () -> x.may(1, 1, 9));
        nothingHappened(x);
        CHECK.due("may(0, 1, 9)", 1, () -> x.may(0, 1, 9));
    }

    private static void refusedTogether() {
        FragileRules x = new FragileRules();
        x.own(2, true);
        x.unit(0, 0, 0);
        x.unit(0, 0, 0);
        CHECK.refused("together(-1, 0)", NoSuchElementException.class, () -> x.together(-1, 0));
        CHECK.refused("together(0, -1)", NoSuchElementException.class, () -> x.together(0, -1));
        CHECK.refused("together(2, 0)", NoSuchElementException.class, () -> x.together(2, 0));
        CHECK.refused("together(0, 2)", NoSuchElementException.class, () -> x.together(0, 2));
        CHECK.refused("together(2, 2)", NoSuchElementException.class, () -> x.together(2, 2));
        CHECK.refused("together(1, 1)", IllegalStateException.class, () -> x.together(1, 1));
        nothingHappened(x);
    }

    private static void refusedMark() {
        FragileRules x = new FragileRules();
        x.rule(4, 1, 2);
        x.unit(0, 0, 4);
        CHECK.refused("mark(-1, 1)", NoSuchElementException.class, () -> x.mark(-1, 1));
        CHECK.refused("mark(1, 1)", NoSuchElementException.class, () -> x.mark(1, 1));
        CHECK.refused("mark(1, 3)", NoSuchElementException.class, () -> x.mark(1, 3));
        for (int m : new int[] {0, -1, 3, 5, 6, 12, 17, 31, 32, 64, Integer.MIN_VALUE, Integer.MAX_VALUE}) {
            CHECK.refused("mark(0, " + m + ")", IllegalArgumentException.class, () -> x.mark(0, m));
        }
        CHECK.refused("mark(0, 4)", IllegalStateException.class, () -> x.mark(0, 4));
        nothingHappened(x);
        CHECK.due("about(0, 2)", 4, () -> x.about(0, 2));
        CHECK.due("told(1, 4)", 0, () -> x.told(1, 4));
    }
}
