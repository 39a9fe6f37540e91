/** Promises 5 and 6. */
public final class TextTest {
    private static final Check CHECK = new Check("promises 5 and 6");

    public static void main(String[] args) {
        signs();
        rightTexts();
        wrongTexts();
        behindOtherRules();
        noRoomForTheRules();
        CHECK.end();
    }

    private static int put(FragileRules x, int c) {
        x.sign(c);
        return 0;
    }

    private static void signs() {
        FragileRules x = new FragileRules();
        for (int c : new int[] {9, 11, 13, 31, 127, 0, -1, 10 + 256, Integer.MAX_VALUE, Integer.MIN_VALUE}) {
            CHECK.refused("sign(" + c + ")", IllegalArgumentException.class, () -> put(x, c));
        }
        CHECK.due("count(2) behind wrong signs", 0, () -> x.count(2));
        for (int c : new int[] {10, 32, 126}) {
            CHECK.due("sign(" + c + ")", 0, () -> put(x, c));
        }
        CHECK.due("count(2)", 3, () -> x.count(2));

        FragileRules full = new FragileRules();
        Check.write(full, "N 1 2\n".repeat(33) + "N ");
        CHECK.due("count(2) of a full text", 200, () -> full.count(2));
        CHECK.refused("a 201st sign", UnsupportedOperationException.class, () -> put(full, '1'));
        CHECK.refused("a 201st sign, wrong", IllegalArgumentException.class, () -> put(full, 9));
        CHECK.due("count(2) of a full text", 200, () -> full.count(2));
        CHECK.due("read() of a full text that ends too early", -201, full::read);
        CHECK.due("count(2) behind read()", 0, () -> full.count(2));
        CHECK.due("sign behind read()", 0, () -> put(full, 'N'));
    }

    private static void rightTexts() {
        FragileRules x = new FragileRules();
        CHECK.due("read() of no text", 0, x::read);
        String text = "N 0 7\nA 7 0\nB 3 0\nB 4 9\nB 5 10\nB 6 99\nL 1 0\nL 2 9\n";
        CHECK.due("read()", 8, () -> Check.writeAndRead(x, text));
        CHECK.due("count(2)", 0, () -> x.count(2));
        int[][] rules = {{0, 0, 7}, {1, 7, 0}, {2, 3, 0}, {2, 4, 9}, {2, 5, 10}, {2, 6, 99}, {3, 1, 0}, {3, 2, 9}};
        for (int i = 0; i < rules.length; i++) {
            for (int what = 0; what <= 2; what++) {
                int rule = i + 1;
                int w = what;
                CHECK.due("told(" + rule + ", " + w + ")", rules[i][w], () -> x.told(rule, w));
            }
        }
        CHECK.compare("places", "0 1 2 3 4 5 6 7", Check.placeRow(x));
        CHECK.due("read() of no text", 8, x::read);
        CHECK.due("read() of one more", 9, () -> Check.writeAndRead(x, "A 1 1\n"));

        FragileRules twelve = new FragileRules();
        CHECK.due("read() of 12 rules", 12, () -> Check.writeAndRead(twelve, "B 7 99\n".repeat(12)));
        CHECK.due("told(12, 2)", 99, () -> twelve.told(12, 2));
    }

    private static void wrongAt(int place, String text) {
        FragileRules x = new FragileRules();
        x.rule(0, 1, 1);
        CHECK.due("read() of '" + text.replace("\n", "\\n") + "'", -1 - place, () -> Check.writeAndRead(x, text));
        CHECK.due("count(1): no rule comes", 1, () -> x.count(1));
        CHECK.due("count(2): the signs are gone", 0, () -> x.count(2));
    }

    private static void wrongTexts() {
        wrongAt(0, "\n");
        wrongAt(0, " N 1 2\n");
        wrongAt(0, "n 1 2\n");
        wrongAt(0, "O 1 2\n");
        wrongAt(0, "1");
        wrongAt(1, "N");
        wrongAt(1, "N1 2\n");
        wrongAt(1, "N\n");
        wrongAt(2, "N ");
        wrongAt(2, "N  1 2\n");
        wrongAt(2, "N 8 2\n");
        wrongAt(2, "B 9 2\n");
        wrongAt(2, "L / 2\n");
        wrongAt(2, "L : 2\n");
        wrongAt(3, "A 1");
        wrongAt(3, "A 12 2\n");
        wrongAt(3, "A 1\n");
        wrongAt(4, "A 1 ");
        wrongAt(4, "A 1 \n");
        wrongAt(4, "A 1 8\n");
        wrongAt(4, "N 1 9\n");
        wrongAt(4, "B 1 x\n");
        wrongAt(4, "L 1 -1\n");
        wrongAt(5, "A 1 7");
        wrongAt(5, "A 1 70\n");
        wrongAt(5, "N 1 10\n");
        wrongAt(5, "L 1 10\n");
        wrongAt(5, "L 1 00\n");
        wrongAt(5, "B 1 00\n");
        wrongAt(5, "B 1 07\n");
        wrongAt(5, "B 1 0");
        wrongAt(5, "B 1 1 \n");
        wrongAt(5, "B 1 1:\n");
        wrongAt(6, "B 1 10");
        wrongAt(6, "B 1 100\n");
        wrongAt(6, "B 1 99x");
        wrongAt(6, "N 1 2\n\n");
        wrongAt(7, "N 1 2\nN");
        wrongAt(12, "B 1 22\nL 3 00\n");
        wrongAt(12 * 6 + 6, "N 1 2\n".repeat(13) + "x");
        wrongAt(199, "N 1 2\n".repeat(33) + "Nx");
    }

    private static void behindOtherRules() {
        FragileRules x = new FragileRules();
        x.rule(0, 1, 1);
        x.own(1, true);
        x.order(2, 0);
        CHECK.due("read()", 4, () -> Check.writeAndRead(x, "L 1 1\nA 2 3\n"));
        CHECK.due("told(3, 0)", 3, () -> x.told(3, 0));
        CHECK.due("told(4, 2)", 3, () -> x.told(4, 2));
        CHECK.compare("places", "1 0 2 3", Check.placeRow(x));
    }

    private static void noRoomForTheRules() {
        FragileRules x = new FragileRules();
        for (int i = 0; i < 10; i++) {
            x.rule(1, 2, 3);
        }
        CHECK.refused("read() of 3 rules", UnsupportedOperationException.class,
            () -> Check.writeAndRead(x, "N 1 2\nN 1 2\nN 1 2\n"));
        CHECK.due("count(1): none comes", 10, () -> x.count(1));
        CHECK.due("count(2): the signs are gone", 0, () -> x.count(2));
        CHECK.due("read() of 3 rules, wrong behind them", -19,
            () -> Check.writeAndRead(x, "N 1 2\nN 1 2\nN 1 2\nx"));
        CHECK.due("read() of 2 rules", 12, () -> Check.writeAndRead(x, "N 1 2\nL 4 5\n"));
        CHECK.due("told(12, 0)", 3, () -> x.told(12, 0));
        CHECK.due("read() of no text", 12, x::read);
        CHECK.refused("read() of 1 rule", UnsupportedOperationException.class, () -> Check.writeAndRead(x, "N 1 2\n"));
        CHECK.due("read() of a wrong text", -6, () -> Check.writeAndRead(x, "N 1 2"));

        FragileRules none = new FragileRules();
        CHECK.refused("read() of 13 rules", UnsupportedOperationException.class,
            () -> Check.writeAndRead(none, "N 1 2\n".repeat(13)));
        CHECK.due("count(1): none comes", 0, () -> none.count(1));
    }
}
