/** Promise 10. */
public final class AskedTest {
    private static final Check CHECK = new Check("promise 10");

    public static void main(String[] args) {
        rowsOfEachAsking();
        upToTheOneThatRefused();
        inTheOrderOfAsking();
        noneBehindUnit();
        keptBehindOtherCalls();
        CHECK.end();
    }

    /** Rules 1 .. 5 of the rows 0 .. 4 and 6 .. 9 own ones 0 .. 3, none of which refuses kinds 0. */
    private static FragileRules allRows() {
        FragileRules x = new FragileRules();
        x.rule(0, 1, 1);
        x.rule(1, 1, 1);
        x.rule(2, 1, 1);
        x.rule(3, 1, 1);
        x.rule(4, 1, 2);
        for (int does = 0; does <= 3; does++) {
            x.own(does, false);
        }
        x.unit(0, 0, 0);
        x.unit(0, 0, 0);
        return x;
    }

    private static void rowsOfEachAsking() {
        FragileRules x = allRows();
        CHECK.due("may(0, 1, 0)", 0, () -> x.may(0, 1, 0));
        CHECK.compare("asked(..) behind may()", "1 3 4 6 7 9", Check.askedRow(x));
        CHECK.due("together(0, 1)", 0, () -> x.together(0, 1));
        CHECK.compare("asked(..) behind together()", "2 8", Check.askedRow(x));
        CHECK.due("mark(0, 2)", 0, () -> x.mark(0, 2));
        CHECK.compare("asked(..) behind mark()", "5", Check.askedRow(x));
        CHECK.due("asked(-1)", -1, () -> x.asked(-1));
        CHECK.due("asked(1)", -1, () -> x.asked(1));
        CHECK.due("asked(12)", -1, () -> x.asked(12));
        CHECK.due("asked(least int)", -1, () -> x.asked(Integer.MIN_VALUE));
        CHECK.due("asked(largest int)", -1, () -> x.asked(Integer.MAX_VALUE));
    }

    private static void upToTheOneThatRefused() {
        FragileRules x = allRows();
        x.unit(1, 11, 0);
        x.unit(1, 11, 0);
        x.may(0, 2, 5);
        CHECK.compare("asked(..) up to BELOW", "1 3 4", Check.askedRow(x));
        x.may(2, 3, 0);
        CHECK.compare("asked(..) up to NEVER ABOVE", "1", Check.askedRow(x));
        x.together(2, 3);
        CHECK.compare("asked(..) up to APART", "2", Check.askedRow(x));
        x.rule(4, 8, 2);
        x.mark(2, 8);
        CHECK.compare("asked(..) up to the NEEDS of mark 8", "5 10", Check.askedRow(x));
        x.mark(2, 1);
        CHECK.compare("asked(..) up to the NEEDS of mark 1", "5", Check.askedRow(x));

        FragileRules full = new FragileRules();
        full.unit(0, 0, 0);
        full.unit(0, 0, 0);
        for (int i = 0; i < 12; i++) {
            full.own(0, false);
        }
        full.may(0, 1, 0);
        CHECK.compare("asked(..) of 12", "1 2 3 4 5 6 7 8 9 10 11 12", Check.askedRow(full));
        CHECK.due("asked(12)", -1, () -> full.asked(12));
    }

    private static void inTheOrderOfAsking() {
        FragileRules x = allRows();
        x.order(9, 0);
        x.order(1, 8);
        x.may(0, 1, 0);
        CHECK.compare("asked(..)", "9 3 4 6 7 1", Check.askedRow(x));
        x.order(9, 8);
        CHECK.compare("asked(..) behind another order()", "9 3 4 6 7 1", Check.askedRow(x));
    }

    private static void noneBehindUnit() {
        FragileRules x = allRows();
        x.may(0, 1, 0);
        CHECK.refused("unit(8, 0, 0)", IllegalArgumentException.class, () -> x.unit(8, 0, 0));
        CHECK.compare("asked(..) behind a unit() that threw", "1 3 4 6 7 9", Check.askedRow(x));
        CHECK.due("unit(0, 0, 0)", 2, () -> x.unit(0, 0, 0));
        CHECK.compare("asked(..) behind a unit()", "", Check.askedRow(x));
        x.may(0, 1, 0);
        CHECK.due("unit(0, 0, 2)", 3, () -> x.unit(0, 0, 2));
        CHECK.compare("asked(..) behind a unit() with a mark", "", Check.askedRow(x));
        x.may(0, 1, 0);
        CHECK.due("unit(0, 0, 1)", -6, () -> x.unit(0, 0, 1));
        CHECK.compare("asked(..) behind a unit() that was refused", "", Check.askedRow(x));
        for (int i = 4; i < 10; i++) {
            x.unit(0, 0, 0);
        }
        x.together(0, 1);
        CHECK.refused("an 11th unit", UnsupportedOperationException.class, () -> x.unit(0, 0, 0));
        CHECK.compare("asked(..) behind a unit() without room", "2 8", Check.askedRow(x));
    }

    private static void keptBehindOtherCalls() {
        FragileRules x = allRows();
        x.together(0, 1);
        x.rule(1, 5, 5);
        x.own(2, true);
        Check.writeAndRead(x, "A 5 5\n");
        Check.writeAndRead(x, "x");
        x.order(8, 0);
        CHECK.refused("may(0, 0, 0)", IllegalStateException.class, () -> x.may(0, 0, 0));
        CHECK.refused("mark(0, 3)", IllegalArgumentException.class, () -> x.mark(0, 3));
        CHECK.compare("asked(..)", "2 8", Check.askedRow(x));
    }
}
