import java.util.NoSuchElementException;

/** Promise 1. */
public final class NewObjectTest {
    public static void main(String[] args) {
        Check check = new Check("promise 1");
        FragileRules x = new FragileRules();
        for (int what = 0; what <= 4; what++) {
            int asked = what;
            check.due("count(" + what + ")", 0, () -> x.count(asked));
        }
        check.due("asked(0)", -1, () -> x.asked(0));
        check.due("never(0)", -1, () -> x.never(0));
        check.refused("about(0, 0)", NoSuchElementException.class, () -> x.about(0, 0));
        check.refused("told(1, 0)", NoSuchElementException.class, () -> x.told(1, 0));
        check.refused("order(1, 0)", NoSuchElementException.class, () -> x.order(1, 0));

        FragileRules other = new FragileRules();
        other.unit(1, 2, 3);
        other.rule(0, 1, 2);
        other.sign('N');
        FragileRules again = new FragileRules();
        check.due("count(0) of another object", 0, () -> again.count(0));
        check.due("count(1) of another object", 0, () -> again.count(1));
        check.due("count(2) of another object", 0, () -> again.count(2));
        check.end();
    }
}
