/** Promise 3: the six operations, their cuts, their bounds, and what is refused. */
public final class Promise03NodeTest {
    private static final Check CHECK = new Check("promise 3");

    private static void operation(int form, int op, long a, int scaleA, long b, int scaleB, String want) {
        ArithmeticForms forms = new ArithmeticForms(form);
        int made = forms.node(op, forms.value(a, scaleA), forms.value(b, scaleB));
        CHECK.due("the node's number", made, 3);
        CHECK.dueValue(a + "e-" + scaleA + " op " + op + " " + b + "e-" + scaleB + " with form " + form, forms, made, want);
    }

    private static int power(ArithmeticForms forms, long base, int exponent) {
        return forms.node(4, forms.value(base, 0), forms.value(exponent, 0));
    }

    /** 10^-99 as a power of 0.1: 10 to -99 itself would need 10^99, which is raised. */
    private static int lowest(ArithmeticForms forms) {
        return forms.node(4, forms.value(1, 1), forms.value(99, 0));
    }

    private static void sums() {
        operation(31, 0, 125, 2, 75, 2, "2");
        operation(31, 0, 125, 2, -125, 2, "0");
        operation(31, 0, -1, 0, 3, 0, "2");
        operation(31, 0, 1, 0, -3, 0, "-2");
        operation(31, 0, 0, 0, -3, 1, "-0.3");
        operation(31, 1, 0, 0, -3, 1, "0.3");
        operation(31, 1, 3, 0, 0, 0, "3");
        operation(31, 1, 1, 0, 1, 18, "0.999999999999999999");
        operation(31, 0, 99999999L, 0, 1, 0, "100000000");
        operation(31, 1, 100000000L, 0, 1, 0, "99999999");
        operation(2, 0, 99, 0, 9, 0, "100");
        operation(2, 0, 95, 0, 88, 1, "100");
        operation(2, 0, 90, 0, 99, 1, "99");
        operation(2, 1, 10, 0, 1, 2, "9.9");
        operation(2, 1, -10, 0, -1, 2, "-9.9");
        operation(31, 0, Long.MAX_VALUE, 0, 1, 18, "9223372036854775807");
        operation(31, 0, Long.MAX_VALUE, 0, Long.MAX_VALUE, 18, "9223372036854775816.223372036854");
    }

    private static void productsAndQuotients() {
        operation(31, 2, 12, 0, -12, 1, "-14.4");
        operation(31, 2, 0, 0, -12, 1, "0");
        operation(31, 2, Long.MAX_VALUE, 0, Long.MAX_VALUE, 0, "8507059173023461584739690778423e7");
        operation(31, 2, Long.MIN_VALUE, 0, Long.MIN_VALUE, 0, "8507059173023461586584365185794e7");
        operation(3, 2, 999, 0, 999, 0, "998000");
        operation(3, 2, -999, 0, 999, 0, "-998000");
        operation(31, 3, 1, 0, 8, 0, "0.125");
        operation(31, 3, 2, 0, 3, 0, "0.6666666666666666666666666666666");
        operation(31, 3, -2, 0, 3, 0, "-0.6666666666666666666666666666666");
        operation(31, 3, 20, 0, 3, 0, "6.666666666666666666666666666666");
        operation(31, 3, 0, 0, 3, 0, "0");
        operation(31, 3, Long.MAX_VALUE, 0, Long.MAX_VALUE, 18, "1e18");
        operation(31, 3, 99999999L, 0, 100000001L, 0, "0.9999999800000001999999980000000");
        operation(1, 3, 9, 0, 10, 0, "0.9");
        operation(4, 3, 1, 18, 7, 0, "1.428e-19");
    }

    private static void wideSum() {
        ArithmeticForms forms = new ArithmeticForms(31);
        int high = power(forms, 10, 98);
        int low = lowest(forms);
        CHECK.dueValue("10^98", forms, high, "1e98");
        CHECK.dueValue("10^-99", forms, low, "1e-99");
        CHECK.dueValue("10^98 + 10^-99", forms, forms.node(0, high, low), "1e98");
        CHECK.dueValue("10^98 - 10^-99", forms, forms.node(1, high, low), "9.999999999999999999999999999999e97");
        CHECK.dueValue("10^-99 - 10^98", forms, forms.node(1, low, high), "-9.999999999999999999999999999999e97");
        CHECK.dueValue("10^-99 + 10^-99", forms, forms.node(0, low, low), "2e-99");
    }

    private static void bounds() {
        ArithmeticForms forms = new ArithmeticForms(31);
        int high = power(forms, 10, 98);
        int ten = forms.value(10, 0);
        int nine = forms.value(9, 0);
        int nines = forms.node(2, high, nine);
        CHECK.dueValue("9e98", forms, nines, "9e98");
        CHECK.dueRaised("10^98 * 10", forms, forms.node(2, high, ten), 1);
        CHECK.dueRaised("-10^98 * 10", forms, forms.node(2, forms.node(5, high, 0), ten), 1);
        CHECK.dueRaised("9e98 + 1e98", forms, forms.node(0, nines, high), 1);
        CHECK.dueRaised("-9e98 - 1e98", forms, forms.node(1, forms.node(5, nines, 0), high), 1);
        int most = forms.node(1, nines, forms.value(1, 0));
        CHECK.dueValue("9e98 - 1", forms, most, "8.999999999999999999999999999999e98");
        int low = lowest(forms);
        CHECK.dueValue("10^-99 * 9", forms, forms.node(2, low, nine), "9e-99");
        CHECK.dueValue("10^-99 / 10", forms, forms.node(3, low, ten), "0");
        CHECK.dueValue("10^-99 * 0.999", forms, forms.node(2, low, forms.value(999, 3)), "0");
        int small = forms.node(2, low, forms.value(12, 1));
        CHECK.dueValue("1.2e-99", forms, small, "1.2e-99");
        CHECK.dueValue("1.2e-99 - 1e-99", forms, forms.node(1, small, low), "0");
        CHECK.dueValue("1e-99 - 1.2e-99", forms, forms.node(1, low, small), "0");
        CHECK.dueRaised("10^98 / 10^-99", forms, forms.node(3, high, low), 1);
        CHECK.dueValue("10^-99 / 10^98", forms, forms.node(3, low, high), "0");
    }

    private static void powers() {
        ArithmeticForms forms = new ArithmeticForms(31);
        CHECK.dueValue("2^10", forms, power(forms, 2, 10), "1024");
        CHECK.dueValue("2^99", forms, power(forms, 2, 99), "633825300114114700748351602688");
        CHECK.dueValue("2^-2", forms, power(forms, 2, -2), "0.25");
        CHECK.dueValue("-3^3", forms, power(forms, -3, 3), "-27");
        CHECK.dueValue("-3^-3", forms, power(forms, -3, -3), "-0.03703703703703703703703703703703");
        CHECK.dueValue("7^0", forms, power(forms, 7, 0), "1");
        CHECK.dueValue("7^1", forms, power(forms, 7, 1), "7");
        CHECK.dueValue("0^5", forms, power(forms, 0, 5), "0");
        CHECK.dueRaised("0^0", forms, power(forms, 0, 0), 1);
        CHECK.dueRaised("0^-1", forms, power(forms, 0, -1), 2);
        CHECK.dueRaised("2^100", forms, power(forms, 2, 100), 1);
        CHECK.dueRaised("2^-100", forms, power(forms, 2, -100), 1);
        CHECK.dueRaised("1^100", forms, power(forms, 1, 100), 1);
        CHECK.dueRaised("0^100", forms, power(forms, 0, 100), 1);
        CHECK.dueRaised("10^99", forms, power(forms, 10, 99), 1);
        CHECK.dueRaised("10^-99", forms, power(forms, 10, -99), 1);
        CHECK.dueRaised("11^-99", forms, power(forms, 11, -99), 1);
        int half = forms.value(5, 1);
        CHECK.dueRaised("0.5^0.5", forms, forms.node(4, half, half), 1);
        CHECK.dueRaised("0^0.5", forms, forms.node(4, forms.value(0, 0), half), 1);
        CHECK.dueRaised("0^-0.5", forms, forms.node(4, forms.value(0, 0), forms.value(-5, 1)), 1);
        CHECK.dueValue("0.5^2.00", forms, forms.node(4, half, forms.value(200, 2)), "0.25");
        int tiny = forms.value(1, 10);
        CHECK.dueValue("0.0000000001^10", forms, forms.node(4, tiny, forms.value(10, 0)), "0");
        CHECK.dueRaised("0.0000000001^-10", forms, forms.node(4, tiny, forms.value(-10, 0)), 2);
    }

    private static void powersCutEachProduct() {
        ArithmeticForms forms = new ArithmeticForms(2);
        // 1.9, 3.61, 6.84, 12.9 exactly; cut at each step 1.9, 3.6, 6.8, 12
        int base = forms.value(19, 1);
        CHECK.dueValue("1.9^4 of 2 digits", forms, forms.node(4, base, forms.value(4, 0)), "12");
        CHECK.dueValue("1.9^-4 of 2 digits", forms, forms.node(4, base, forms.value(-4, 0)), "0.083");
    }

    private static void negation() {
        ArithmeticForms forms = new ArithmeticForms(31);
        int a = forms.value(-125, 2);
        CHECK.dueValue("-(-1.25)", forms, forms.node(5, a, 0), "1.25");
        CHECK.dueValue("-(-1.25) with no b", forms, forms.node(5, a, Integer.MIN_VALUE), "1.25");
        CHECK.dueValue("-0", forms, forms.node(5, forms.value(0, 0), 99), "0");
        int raisedOne = power(forms, 0, 0);
        CHECK.dueValue("-a with a raised b", forms, forms.node(5, a, raisedOne), "1.25");
    }

    private static void refusals() {
        ArithmeticForms forms = new ArithmeticForms(31);
        forms.value(1, 0);
        CHECK.due("node(-1, 1, 1)", forms.node(-1, 1, 1), -4);
        CHECK.due("node(6, 1, 1)", forms.node(6, 1, 1), -4);
        CHECK.due("node(6, 9, 9)", forms.node(6, 9, 9), -4);
        CHECK.due("node(0, 0, 1)", forms.node(0, 0, 1), -2);
        CHECK.due("node(0, 1, 0)", forms.node(0, 1, 0), -2);
        CHECK.due("node(0, 2, 1)", forms.node(0, 2, 1), -2);
        CHECK.due("node(0, 1, 2)", forms.node(0, 1, 2), -2);
        CHECK.due("node(5, 2, 1)", forms.node(5, 2, 1), -2);
        CHECK.due("node(5, -1, 1)", forms.node(5, -1, 1), -2);
        CHECK.due("node(0, lowest, highest)", forms.node(0, Integer.MIN_VALUE, Integer.MAX_VALUE), -2);
        for (int i = 2; i <= 100; i++) {
            CHECK.due("node " + i, forms.node(0, i - 1, 1), i);
        }
        CHECK.due("node 101", forms.node(0, 1, 1), -1);
        CHECK.due("no such nodes with 100", forms.node(0, 1, 101), -2);
        CHECK.due("no such op with 100", forms.node(6, 1, 1), -4);
        CHECK.dueValue("1 a hundred times", forms, 100, "100");
    }

    public static void main(String[] args) {
        sums();
        productsAndQuotients();
        wideSum();
        bounds();
        powers();
        powersCutEachProduct();
        negation();
        refusals();
        CHECK.end();
    }
}
