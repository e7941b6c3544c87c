/** Promise 7: set keeps the lowest digits and the sign, and touches nothing else. */
public final class Promise07SetTest {
    private static final Check CHECK = new Check("promise 7");

    private static void holds(int digits, long v, long want) {
        ArithmeticForms forms = new ArithmeticForms(31);
        forms.receiver(digits, digits, 7);
        CHECK.due("set(1, " + v + ")", forms.set(1, v), 1);
        CHECK.due(v + " in " + digits + " digits", forms.stored(1), want);
    }

    public static void main(String[] args) {
        holds(3, 0, 0);
        holds(3, 999, 999);
        holds(3, 1000, 0);
        holds(3, -1000, 0);
        holds(3, 12345, 345);
        holds(3, -12345, -345);
        holds(1, -19, -9);
        holds(18, 999999999999999999L, 999999999999999999L);
        holds(18, 1000000000000000000L, 0);
        holds(18, Long.MAX_VALUE, 223372036854775807L);
        holds(18, Long.MIN_VALUE, -223372036854775808L);

        ArithmeticForms forms = new ArithmeticForms(31);
        CHECK.due("set(1, 1) with no receivers", forms.set(1, 1), -2);
        forms.receiver(4, 0, 0);
        forms.receiver(4, 0, 0);
        CHECK.due("set(0, 1)", forms.set(0, 1), -2);
        CHECK.due("set(3, 1)", forms.set(3, 1), -2);
        CHECK.due("set(-1, 1)", forms.set(-1, 1), -2);
        CHECK.due("set(lowest, 1)", forms.set(Integer.MIN_VALUE, 1), -2);
        CHECK.due("set(highest, 1)", forms.set(Integer.MAX_VALUE, 1), -2);
        forms.set(2, 17);
        CHECK.due("stored(1)", forms.stored(1), 0);
        CHECK.due("stored(2)", forms.stored(2), 17);
        forms.run(4, forms.value(5, 0), true);
        forms.run(0, forms.value(12345, 0), true);
        forms.set(2, 1);
        CHECK.due("error(2) after set", forms.error(2), true);
        CHECK.due("rest(2) after set", forms.rest(2), 2);
        CHECK.due("raised() after set", forms.raised(), 1);
        CHECK.end();
    }
}
