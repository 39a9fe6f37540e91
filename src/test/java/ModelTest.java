import java.util.Random;

/**
 * Long runs of calls, right ones and wrong ones, each answer compared with that of a second program for the same
 * document (Model). The seeds are fixed, so every run of this test makes the same calls.
 */
public final class ModelTest {
    private static final int OBJECTS = 2500;
    private static final int CALLS = 512;
    private static final int[] MARKS = {1, 2, 4, 8, 16};
    private static final int[] FAR = {Integer.MIN_VALUE, -1, 3, 13, 32, 100, 201, 1001, Integer.MAX_VALUE};
    private static final String[] LINES = {"N 1 2\n", "A 0 1\n", "A 2 2\n", "B 1 5\n", "B 0 99\n", "B 2 50\n",
        "L 1 3\n", "L 2 9\n", "L 0 0\n", "N 0 0\n", "N 2 1\n"};
    private static final String SIGNS = "NABL 0123789\n~x";

    private final Random random;
    private final FragileRules real = new FragileRules();
    private final Model model = new Model();
    private String lineLeft = "";

    private ModelTest(long seed) {
        random = new Random(seed);
    }

    public static void main(String[] args) {
        for (int seed = 1; seed <= OBJECTS; seed++) {
            String wrong = new ModelTest(seed).run();
            if (wrong != null) {
                System.out.println("seed " + seed + ": " + wrong);
                System.exit(1);
            }
        }
    }

    private String run() {
        // Some objects stay small for long, so that few rules and units are seen as often as many.
        int busy = 1 + random.nextInt(30);
        for (int i = 0; i < CALLS; i++) {
            int[] call = nextCall(busy);
            String got = Check.outcome(() -> answer(call));
            String want = Check.outcome(() -> model.answer(call));
            if (!got.equals(want)) {
                return "call " + i + ", " + Model.NAMES[call[0]] + " with " + call[1] + ", " + call[2] + ", " + call[3]
                    + " answered " + got + ", due is " + want;
            }
        }
        return null;
    }

    private int answer(int[] c) {
        switch (c[0]) {
            case Model.UNIT: return real.unit(c[1], c[2], c[3]);
            case Model.RULE: return real.rule(c[1], c[2], c[3]);
            case Model.OWN: return real.own(c[1], c[2] == 1);
            case Model.SIGN: real.sign(c[1]); return 0;
            case Model.READ: return real.read();
            case Model.MAY: return real.may(c[1], c[2], c[3]);
            case Model.TOGETHER: return real.together(c[1], c[2]);
            case Model.MARK: return real.mark(c[1], c[2]);
            case Model.ASKED: return real.asked(c[1]);
            case Model.NEVER: return real.never(c[1]);
            case Model.ORDER: return real.order(c[1], c[2]);
            case Model.TOLD: return real.told(c[1], c[2]);
            case Model.ABOUT: return real.about(c[1], c[2]);
            default: return real.count(c[1]);
        }
    }

    private int[] nextCall(int busy) {
        if (!lineLeft.isEmpty()) {
            int sign = random.nextInt(60) == 0 ? SIGNS.charAt(random.nextInt(SIGNS.length())) : lineLeft.charAt(0);
            lineLeft = lineLeft.substring(1);
            return call(Model.SIGN, sign, 0, 0);
        }
        if (random.nextInt(busy) == 0) {
            return nextMaking();
        }
        int unit = number(model.unitCount());
        int rule = number(model.ruleCount() + 1);
        switch (random.nextInt(10)) {
            case 0: case 1: return call(Model.MAY, unit, number(model.unitCount()), number(10));
            case 2: case 3: return call(Model.TOGETHER, unit, number(model.unitCount()), 0);
            case 4: return call(Model.MARK, unit, mark(), 0);
            case 5: return call(Model.ASKED, number(6), 0, 0);
            case 6: return call(Model.NEVER, number(6), 0, 0);
            case 7: return call(Model.ORDER, rule, number(model.ruleCount()), 0);
            case 8: return call(Model.TOLD, rule, number(5), 0);
            default: return random.nextBoolean() ? call(Model.ABOUT, unit, number(3), 0)
                : call(Model.COUNT, number(5), 0, 0);
        }
    }

    private int[] nextMaking() {
        switch (random.nextInt(8)) {
            case 0: case 1: return call(Model.UNIT, number(3), number(random.nextBoolean() ? 100 : 1001), number(32));
            case 2: return call(Model.RULE, number(4), number(3), number(random.nextBoolean() ? 4 : 10));
            case 3: return call(Model.RULE, 4, mark(), mark());
            case 4: return call(Model.OWN, number(4), random.nextInt(4) == 0 ? 1 : 0, 0);
            case 5:
                for (int i = random.nextInt(random.nextInt(8) == 0 ? 34 : 4); i > 0; i--) {
                    lineLeft += LINES[random.nextInt(LINES.length)];
                }
                return call(Model.READ, 0, 0, 0);
            case 6: return call(Model.SIGN, number(128), 0, 0);
            default: return call(Model.READ, 0, 0, 0);
        }
    }

    private static int[] call(int name, int a, int b, int c) {
        return new int[] {name, a, b, c};
    }

    /** Mostly below the bound, at times at it, just below 0 or far off. */
    private int number(int bound) {
        int sort = random.nextInt(40);
        if (sort == 0) {
            return bound;
        }
        if (sort == 1) {
            return FAR[random.nextInt(FAR.length)];
        }
        return bound <= 0 ? -1 : random.nextInt(bound);
    }

    private int mark() {
        return random.nextInt(20) == 0 ? number(33) : MARKS[random.nextInt(MARKS.length)];
    }
}
