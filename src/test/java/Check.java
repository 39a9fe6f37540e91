/** Counts the answers that are not as due, and ends a test with exit code 1 if there was one. */
final class Check {
    interface Call {
        int answer();
    }

    private final String promise;
    private int wrong = 0;

    Check(String promise) {
        this.promise = promise;
    }

    void due(String call, int want, Call made) {
        compare(call, String.valueOf(want), outcome(made));
    }

    void refused(String call, Class<? extends RuntimeException> want, Call made) {
        compare(call, "throws." + want.getSimpleName(), outcome(made));
    }

    /** What the call answered, or the exception's name behind throws. */
    static String outcome(Call made) {
        try {
            return String.valueOf(made.answer());
        } catch (RuntimeException e) {
            return "throws." + e.getClass().getSimpleName();
        }
    }

    void compare(String call, String want, String got) {
        if (!want.equals(got)) {
            wrong++;
            System.out.println(promise + ": " + call + " answered " + got + ", due is " + want);
        }
    }

    void end() {
        if (wrong != 0) {
            System.out.println(promise + ": " + wrong + " answers are not as due");
            System.exit(1);
        }
    }

    /** The text's signs go in one by one. */
    static void write(FragileRules x, String text) {
        for (int i = 0; i < text.length(); i++) {
            x.sign(text.charAt(i));
        }
    }

    static int writeAndRead(FragileRules x, String text) {
        write(x, text);
        return x.read();
    }

    /** asked() from 0 on, up to the first -1, as "1 3 4". */
    static String askedRow(FragileRules x) {
        StringBuilder row = new StringBuilder();
        for (int i = 0; i < 13 && x.asked(i) != -1; i++) {
            row.append(i == 0 ? "" : " ").append(x.asked(i));
        }
        return row.toString();
    }

    /** never() from 0 on, up to the first -1. */
    static String neverRow(FragileRules x) {
        StringBuilder row = new StringBuilder();
        for (int i = 0; i < 13 && x.never(i) != -1; i++) {
            row.append(i == 0 ? "" : " ").append(x.never(i));
        }
        return row.toString();
    }

    /** The places of the rules 1, 2, .. in the order. */
    static String placeRow(FragileRules x) {
        StringBuilder row = new StringBuilder();
        for (int rule = 1; rule <= x.count(1); rule++) {
            row.append(rule == 1 ? "" : " ").append(x.told(rule, 3));
        }
        return row.toString();
    }
}
