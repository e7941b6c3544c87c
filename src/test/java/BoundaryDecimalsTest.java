/** The boundary cases in what the terms say of a decimal: its digits, its cut, how far it reaches. */
public final class BoundaryDecimalsTest {
    private static final Check CHECK = new Check("boundaries of decimals");
    private static final String NINES = "9".repeat(31);

    private static void lastDigit() {
        CHECK.sentence(10, "a COEFFICIENT of at most PRECISION digits (the last one not 0)");
        ArithmeticForms most = new ArithmeticForms(31);
        CHECK.dueSides("2 / 3", most, most.node(3, most.value(2, 0), most.value(3, 0)), 1, "6".repeat(31), -31);
        CHECK.dueSides("10^18", most, most.value(1000000000000000000L, 0), 1, "1", 18);
        CHECK.dueSides("10^8", most, most.value(100000000L, 0), 1, "1", 8);
        CHECK.dueSides("1.00", most, most.value(100, 2), 1, "1", 0);
        CHECK.dueSides("1020", most, most.value(1020, 0), 1, "102", 1);
        CHECK.dueSides("0.5 * 2", most, most.node(2, most.value(5, 1), most.value(2, 0)), 1, "1", 0);
        CHECK.dueSides("99999999 + 1", most, most.node(0, most.value(99999999L, 0), most.value(1, 0)), 1, "1", 8);
        ArithmeticForms three = new ArithmeticForms(3);
        CHECK.dueSides("10099 of 3 digits", three, three.value(10099, 0), 1, "1", 4);
        CHECK.dueSides("-1209 of 3 digits", three, three.value(-1209, 0), -1, "12", 2);
        CHECK.dueSides("999 + 1 of 3 digits", three, three.node(0, three.value(999, 0), three.value(1, 0)), 1, "1", 3);
        ArithmeticForms least = new ArithmeticForms(1);
        CHECK.dueSides("19 of 1 digit", least, least.value(19, 0), 1, "1", 1);
        CHECK.dueSides("-0.99 of 1 digit", least, least.value(-99, 2), -1, "9", -1);
    }

    private static void zero() {
        CHECK.sentence(10, "0 has no digits and exponent 0");
        ArithmeticForms forms = new ArithmeticForms(31);
        int none = forms.value(0, 0);
        int minus = forms.value(-125, 2);
        CHECK.dueSides("0", forms, none, 0, "", 0);
        CHECK.dueSides("0 of scale 18", forms, forms.value(0, 18), 0, "", 0);
        CHECK.dueSides("- 0", forms, forms.node(5, none, 1), 0, "", 0);
        CHECK.dueSides("0 + 0", forms, forms.node(0, none, none), 0, "", 0);
        CHECK.dueSides("-1.25 - -1.25", forms, forms.node(1, minus, minus), 0, "", 0);
        CHECK.dueSides("0 * -1.25", forms, forms.node(2, none, minus), 0, "", 0);
        CHECK.dueSides("0 / -1.25", forms, forms.node(3, none, minus), 0, "", 0);
        CHECK.dueSides("0 ^ 3", forms, forms.node(4, none, forms.value(3, 0)), 0, "", 0);
        CHECK.dueSides("what is too small", forms, forms.node(3, Edge.ten(forms, -99), forms.value(-2, 0)), 0, "", 0);
    }

    private static void cut() {
        CHECK.sentence(3, "An operation gives its exact result CUT to as many digits from the first one that is not 0 on (towards 0).");
        ArithmeticForms two = new ArithmeticForms(2);
        int ten = two.value(10, 0);
        int hundredth = two.value(1, 2);
        CHECK.dueSides("10 - 0.01", two, two.node(1, ten, hundredth), 1, "99", -1);
        CHECK.dueSides("0.01 - 10", two, two.node(1, hundredth, ten), -1, "99", -1);
        CHECK.dueSides("10 + 0.01", two, two.node(0, ten, hundredth), 1, "1", 1);
        CHECK.dueSides("99 + 0.99", two, two.node(0, two.value(99, 0), two.value(99, 2)), 1, "99", 0);
        CHECK.dueSides("99 + 1", two, two.node(0, two.value(99, 0), two.value(1, 0)), 1, "1", 2);
        CHECK.dueSides("0.002 / -3", two, two.node(3, two.value(2, 3), two.value(-3, 0)), -1, "66", -5);
        CHECK.dueSides("9.9 * 9.9", two, two.node(2, two.value(99, 1), two.value(99, 1)), 1, "98", 0);
        CHECK.dueSides("-9.9 * 9.9", two, two.node(2, two.value(-99, 1), two.value(99, 1)), -1, "98", 0);
        ArithmeticForms most = new ArithmeticForms(31);
        int high = Edge.ten(most, 98);
        int low = Edge.ten(most, -99);
        CHECK.dueSides("10^98 - 10^-99", most, most.node(1, high, low), 1, NINES, 67);
        CHECK.dueSides("10^-99 - 10^98", most, most.node(1, low, high), -1, NINES, 67);
        CHECK.dueSides("10^98 + 10^-99", most, most.node(0, high, low), 1, "1", 98);
        CHECK.dueSides("10^98 + 10^68", most, most.node(0, high, Edge.ten(most, 68)), 1, "1" + "0".repeat(29) + "1", 68);
        CHECK.dueSides("10^98 + 10^67", most, most.node(0, high, Edge.ten(most, 67)), 1, "1", 98);
        ArithmeticForms four = new ArithmeticForms(4);
        int fine = four.node(2, four.value(9876, 4), four.value(1001, 6));
        // 0.9876 * 0.001001 = 0.0009885876
        CHECK.dueSides("0.9876 * 0.001001", four, fine, 1, "9885", -7);
    }

    private static void cutAtTheLowestPlace() {
        CHECK.sentence(3, "An operation gives its exact result");
        ArithmeticForms forms = new ArithmeticForms(31);
        int one = forms.value(1, 0);
        int fine = forms.node(2, forms.node(0, one, Edge.ten(forms, -30)), Edge.ten(forms, -99));
        int three = Edge.times(forms, 3, 0, -99);
        int ten = Edge.ten(forms, -98);
        String nines = "9".repeat(30);
        CHECK.dueSides("1.0..1e-99", forms, fine, 1, "1" + "0".repeat(29) + "1", -129);
        CHECK.dueSides("1.0..1e-99 + itself", forms, forms.node(0, fine, fine), 1, "2" + "0".repeat(29) + "2", -129);
        CHECK.dueSides("3e-99 - 1.0..1e-99", forms, forms.node(1, three, fine), 1, "1" + nines, -129);
        CHECK.dueSides("1.0..1e-99 - 3e-99", forms, forms.node(1, fine, three), -1, "1" + nines, -129);
        CHECK.dueSides("10^-98 - 1.0..1e-99", forms, forms.node(1, ten, fine), 1, "8" + nines, -129);
        CHECK.dueSides("10^-98 + 1.0..1e-99", forms, forms.node(0, ten, fine), 1, "11", -99);
    }

    private static void tooLarge() {
        CHECK.sentence(3, "A result of 10^99 or more is RAISED as 1");
        ArithmeticForms forms = new ArithmeticForms(31);
        int most = Edge.greatest(forms);
        int minus = forms.node(5, most, 0);
        CHECK.dueSides("the greatest", forms, most, 1, NINES, 68);
        CHECK.dueSides("- the greatest", forms, minus, -1, NINES, 68);
        int unit = Edge.ten(forms, 68);
        int less = Edge.times(forms, 999999999999999999L, 18, 68);
        CHECK.dueSides("the greatest + 0.9..e68", forms, forms.node(0, most, less), 1, NINES, 68);
        CHECK.dueRaised("the greatest + 10^68", forms, forms.node(0, most, unit), 1);
        CHECK.dueRaised("- the greatest - 10^68", forms, forms.node(1, minus, unit), 1);
        int high = Edge.ten(forms, 98);
        int ten = forms.value(10, 0);
        CHECK.dueRaised("10^98 * 10", forms, forms.node(2, high, ten), 1);
        CHECK.dueRaised("10^98 * -10", forms, forms.node(2, high, forms.value(-10, 0)), 1);
        CHECK.dueSides("10^98 * 9.9..", forms, forms.node(2, high, forms.value(999999999999999999L, 17)), 1, "9".repeat(18), 81);
        CHECK.dueRaised("10^98 / 0.1", forms, forms.node(3, high, forms.value(1, 1)), 1);
        CHECK.dueRaised("-10^98 / 0.1", forms, forms.node(3, high, forms.value(-1, 1)), 1);
        CHECK.dueSides("10^98 / 0.16", forms, forms.node(3, high, forms.value(16, 2)), 1, "625", 96);
        CHECK.dueRaised("10 ^ 99", forms, forms.node(4, ten, forms.value(99, 0)), 1);
        CHECK.dueRaised("-10 ^ 99", forms, forms.node(4, forms.value(-10, 0), forms.value(99, 0)), 1);
        CHECK.dueSides("10 ^ 98", forms, high, 1, "1", 98);
        CHECK.dueRaised("the greatest * itself", forms, forms.node(2, most, most), 1);
        CHECK.dueRaised("the greatest / 10^-99", forms, forms.node(3, most, Edge.ten(forms, -99)), 1);
    }

    private static void tooSmall() {
        CHECK.sentence(3, "one below 10^-99 (without sign) is 0");
        ArithmeticForms forms = new ArithmeticForms(31);
        int low = Edge.ten(forms, -99);
        int minus = forms.node(5, low, 0);
        CHECK.dueSides("0.1 ^ 99", forms, low, 1, "1", -99);
        CHECK.dueSides("- 10^-99", forms, minus, -1, "1", -99);
        int nines = forms.value(999999999999999999L, 18);
        CHECK.dueSides("10^-99 * 0.9..", forms, forms.node(2, low, nines), 0, "", 0);
        CHECK.dueSides("-10^-99 * 0.9..", forms, forms.node(2, minus, nines), 0, "", 0);
        int more = forms.value(1000000000000000001L, 18);
        CHECK.dueSides("10^-99 / 1.0..1", forms, forms.node(3, low, more), 0, "", 0);
        CHECK.dueSides("-10^-99 / 1.0..1", forms, forms.node(3, minus, more), 0, "", 0);
        CHECK.dueSides("10^-99 / 1", forms, forms.node(3, low, forms.value(1, 0)), 1, "1", -99);
        // digits below the reach are kept, as long as the first one is within it
        int fine = forms.node(2, low, more);
        CHECK.dueSides("10^-99 * 1.0..1", forms, fine, 1, "1" + "0".repeat(17) + "1", -117);
        CHECK.dueSides("1.0..1e-99 - 10^-99", forms, forms.node(1, fine, low), 0, "", 0);
        CHECK.dueSides("10^-99 - 1.0..1e-99", forms, forms.node(1, low, fine), 0, "", 0);
        CHECK.dueSides("-10^-99 + 1.0..1e-99", forms, forms.node(0, minus, fine), 0, "", 0);
        int next = Edge.ten(forms, -98);
        int nine = Edge.times(forms, 9, 0, -99);
        CHECK.dueSides("10^-98 - 9e-99", forms, forms.node(1, next, nine), 1, "1", -99);
        CHECK.dueSides("9e-99 - 10^-98", forms, forms.node(1, nine, next), -1, "1", -99);
        CHECK.dueSides("0.01 ^ 50", forms, forms.node(4, forms.value(1, 2), forms.value(50, 0)), 0, "", 0);
        CHECK.dueSides("-0.01 ^ 99", forms, forms.node(4, forms.value(-1, 2), forms.value(99, 0)), 0, "", 0);
        CHECK.dueSides("10^-99 * 10^-99", forms, forms.node(2, low, low), 0, "", 0);
        CHECK.dueSides("10^-99 / 10^98", forms, forms.node(3, low, Edge.ten(forms, 98)), 0, "", 0);
    }

    public static void main(String[] args) {
        lastDigit();
        zero();
        cut();
        cutAtTheLowestPlace();
        tooLarge();
        tooSmall();
        CHECK.end();
    }
}
