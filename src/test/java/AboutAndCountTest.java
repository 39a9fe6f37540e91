import java.util.NoSuchElementException;

/** Promises 14 and 15. */
public final class AboutAndCountTest {
    private static final Check CHECK = new Check("promises 14 and 15");

    public static void main(String[] args) {
        aboutUnits();
        counts();
        CHECK.end();
    }

    private static void aboutUnits() {
        FragileRules x = new FragileRules();
        x.unit(5, 600, 9);
        x.unit(6, 700, 18);
        int[][] units = {{5, 600, 9}, {6, 700, 18}};
        for (int unit = 0; unit < 2; unit++) {
            for (int what = 0; what <= 2; what++) {
                int u = unit;
                int w = what;
                CHECK.due("about(" + u + ", " + w + ")", units[u][w], () -> x.about(u, w));
            }
        }
        for (int unit : new int[] {-1, 2, 10, Integer.MIN_VALUE, Integer.MAX_VALUE}) {
            CHECK.refused("about(" + unit + ", 0)", NoSuchElementException.class, () -> x.about(unit, 0));
            CHECK.refused("about(" + unit + ", 3)", NoSuchElementException.class, () -> x.about(unit, 3));
        }
        for (int what : new int[] {-1, 3, Integer.MIN_VALUE, Integer.MAX_VALUE}) {
            CHECK.refused("about(0, " + what + ")", IllegalArgumentException.class, () -> x.about(0, what));
        }
    }

    private static String countRow(FragileRules x) {
        return x.count(0) + " " + x.count(1) + " " + x.count(2) + " " + x.count(3) + " " + x.count(4);
    }

    private static void counts() {
        FragileRules x = new FragileRules();
        for (int what : new int[] {-1, 5, Integer.MIN_VALUE, Integer.MAX_VALUE}) {
            CHECK.due("count(" + what + ")", -1, () -> x.count(what));
        }
        x.unit(1, 0, 0);
        x.unit(2, 0, 0);
        x.unit(2, 0, 0);
        x.rule(0, 1, 2);
        x.rule(4, 1, 2);
        x.own(2, true);
        Check.write(x, "N 1");
        CHECK.compare("counts", "3 3 3 0 0", countRow(x));
        x.may(0, 1, 0);
        CHECK.compare("counts behind a may()", "3 3 3 1 0", countRow(x));
        x.may(1, 0, 0);
        CHECK.compare("counts behind a may() refused by a rule", "3 3 3 2 1", countRow(x));
        x.together(0, 1);
        CHECK.compare("counts behind a together() refused by a rule", "3 3 3 3 2", countRow(x));
        x.mark(0, 1);
        CHECK.compare("counts behind a mark() refused by a rule", "3 3 3 4 3", countRow(x));
        x.mark(0, 4);
        CHECK.compare("counts behind a mark()", "3 3 3 5 3", countRow(x));
        CHECK.due("unit(0, 0, 1)", -3, () -> x.unit(0, 0, 1));
        CHECK.refused("may(0, 0, 0)", IllegalStateException.class, () -> x.may(0, 0, 0));
        CHECK.refused("together(0, 3)", NoSuchElementException.class, () -> x.together(0, 3));
        CHECK.refused("mark(0, 4)", IllegalStateException.class, () -> x.mark(0, 4));
        CHECK.compare("counts behind refused calls", "3 3 3 5 3", countRow(x));
        x.read();
        CHECK.compare("counts behind read()", "3 3 0 5 3", countRow(x));
    }
}
