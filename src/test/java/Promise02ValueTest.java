/** Promise 2: values, their cut, the scales refused and the hundred. */
public final class Promise02ValueTest {
    private static final Check CHECK = new Check("promise 2");

    private static void is(int form, long v, int scale, String want) {
        ArithmeticForms forms = new ArithmeticForms(form);
        String call = "value(" + v + ", " + scale + ") with form " + form;
        CHECK.due(call, forms.value(v, scale), 1);
        CHECK.dueValue(call, forms, 1, want);
        CHECK.due(call + " raises", forms.raises(1), 0);
    }

    public static void main(String[] args) {
        is(31, 0, 0, "0");
        is(31, 0, 18, "0");
        is(31, 1, 0, "1");
        is(31, -1, 18, "-1e-18");
        is(31, 12345, 2, "123.45");
        is(31, 1200, 1, "120");
        is(31, 100000000L, 8, "1");
        is(31, 99999999L, 0, "99999999");
        is(31, Long.MAX_VALUE, 0, "9223372036854775807");
        is(31, Long.MIN_VALUE, 0, "-9223372036854775808");
        is(31, Long.MIN_VALUE, 18, "-9.223372036854775808");
        is(3, 12399, 2, "123");
        is(3, -12399, 2, "-123");
        is(3, 10099, 0, "10000");
        is(1, Long.MIN_VALUE, 18, "-9");
        is(1, Long.MAX_VALUE, 0, "9e18");
        is(8, 123456789L, 0, "123456780");
        is(9, 1234567899L, 3, "1234567.89");
        is(18, Long.MAX_VALUE, 0, "9223372036854775800");

        ArithmeticForms forms = new ArithmeticForms(31);
        CHECK.due("value(1, -1)", forms.value(1, -1), -4);
        CHECK.due("value(1, 19)", forms.value(1, 19), -4);
        CHECK.due("value(1, lowest)", forms.value(1, Integer.MIN_VALUE), -4);
        CHECK.due("value(1, highest)", forms.value(1, Integer.MAX_VALUE), -4);
        for (int i = 1; i <= 100; i++) {
            CHECK.due("value " + i, forms.value(i, 0), i);
        }
        CHECK.due("value 101", forms.value(101, 0), -1);
        CHECK.due("a wrong scale with 100 nodes", forms.value(101, 19), -4);
        CHECK.due("raises(101)", forms.raises(101), -2);
        CHECK.dueValue("node 100", forms, 100, "100");
        CHECK.dueValue("node 1", forms, 1, "1");
        CHECK.end();
    }
}
