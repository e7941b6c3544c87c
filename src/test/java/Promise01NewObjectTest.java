/** Promise 1: the precision, held to 1 .. 31, and that nothing is there at first. */
public final class Promise01NewObjectTest {
    private static final Check CHECK = new Check("promise 1");

    private static void precision(int form, int digits) {
        ArithmeticForms forms = new ArithmeticForms(form);
        int third = forms.node(3, forms.value(1, 0), forms.value(3, 0));
        CHECK.due("digits of 1 / 3 with form " + form, forms.exact(third, 1), digits);
        CHECK.due("exponent of 1 / 3 with form " + form, forms.exact(third, 2), -digits);
        for (int i = 0; i < digits; i++) {
            CHECK.due("digit " + i + " of 1 / 3 with form " + form, forms.exact(third, 3 + i), 3);
        }
        CHECK.due("a digit too many with form " + form, forms.exact(third, 3 + digits), ArithmeticForms.NONE);
    }

    public static void main(String[] args) {
        for (int form = 1; form <= 31; form++) {
            precision(form, form);
        }
        precision(0, 1);
        precision(-1, 1);
        precision(Integer.MIN_VALUE, 1);
        precision(32, 31);
        precision(Integer.MAX_VALUE, 31);

        ArithmeticForms empty = new ArithmeticForms(10);
        CHECK.due("raises(1)", empty.raises(1), -2);
        CHECK.due("exact(1, 0)", empty.exact(1, 0), -1);
        CHECK.due("run(0, 1, true)", empty.run(0, 1, true), -2);
        CHECK.due("node(5, 1, 1)", empty.node(5, 1, 1), -2);
        CHECK.due("stored(1)", empty.stored(1), 0);
        CHECK.due("set(1, 5)", empty.set(1, 5), -2);
        CHECK.due("stored(1) after set", empty.stored(1), 0);
        CHECK.due("error(1)", empty.error(1), false);
        CHECK.due("rest(1)", empty.rest(1), 0);
        CHECK.due("raised()", empty.raised(), 0);
        CHECK.due("value(1, 0)", empty.value(1, 0), 1);
        CHECK.due("receiver(1, 0, 0)", empty.receiver(1, 0, 0), 1);
        CHECK.due("stored(1) of a new one", empty.stored(1), 0);
        CHECK.due("rest(1) of a new one", empty.rest(1), 0);
        CHECK.due("error(1) of a new one", empty.error(1), false);

        ArithmeticForms other = new ArithmeticForms(10);
        CHECK.due("raises(1) of another object", other.raises(1), -2);
        CHECK.end();
    }
}
