/** The boundary cases in what the terms say of nodes: their numbers, division by 0, powers, what is passed on. */
public final class BoundaryNodesTest {
    private static final Check CHECK = new Check("boundaries of nodes");

    private static int power(ArithmeticForms forms, int a, long b, int scale) {
        return forms.node(4, a, forms.value(b, scale));
    }

    private static void numbers() {
        CHECK.sentence(3, "NODES are numbered from 1 on (at most 100)");
        ArithmeticForms forms = new ArithmeticForms(31);
        CHECK.due("the first value", forms.value(1, 0), 1);
        CHECK.due("a refused value", forms.value(1, 19), -4);
        CHECK.due("a refused operation", forms.node(0, 1, 2), -2);
        CHECK.due("the first operation", forms.node(5, 1, 1), 2);
        for (int i = 3; i <= 99; i++) {
            CHECK.due("node " + i, i % 2 == 0 ? forms.value(i, 0) : forms.node(0, i - 1, 1), i);
        }
        CHECK.due("raises(100) before it is made", forms.raises(100), -2);
        CHECK.due("node 100", forms.node(0, 98, 99), 100);
        CHECK.due("a value too many", forms.value(1, 0), ArithmeticForms.NONE);
        CHECK.due("an operation too many", forms.node(0, 99, 100), ArithmeticForms.NONE);
        CHECK.due("raises(101)", forms.raises(101), -2);
        CHECK.dueValue("node 100", forms, 100, "197");
        CHECK.dueValue("node 1", forms, 1, "1");
    }

    private static void values() {
        CHECK.sentence(2, "VALUES v * 10^-scale (cut likewise)");
        ArithmeticForms most = new ArithmeticForms(31);
        CHECK.dueSides("the highest long", most, most.value(Long.MAX_VALUE, 0), 1, "9223372036854775807", 0);
        CHECK.dueSides("the lowest long", most, most.value(Long.MIN_VALUE, 0), -1, "9223372036854775808", 0);
        CHECK.dueSides("the lowest long of scale 18", most, most.value(Long.MIN_VALUE, 18), -1, "9223372036854775808", -18);
        CHECK.dueSides("1 of scale 18", most, most.value(1, 18), 1, "1", -18);
        ArithmeticForms least = new ArithmeticForms(1);
        CHECK.dueSides("the highest long of 1 digit", least, least.value(Long.MAX_VALUE, 0), 1, "9", 18);
        CHECK.dueSides("the lowest long of 1 digit", least, least.value(Long.MIN_VALUE, 18), -1, "9", 0);
        CHECK.dueSides("0.99 of 1 digit", least, least.value(99, 2), 1, "9", -1);
        ArithmeticForms some = new ArithmeticForms(18);
        CHECK.dueSides("19 digits cut to 18", some, some.value(-1999999999999999999L, 0), -1, "1" + "9".repeat(17), 1);
        CHECK.dueSides("18 digits of 18", some, some.value(999999999999999999L, 0), 1, "9".repeat(18), 0);
    }

    private static void earlier() {
        CHECK.sentence(3, "operations of earlier nodes a, b");
        ArithmeticForms forms = new ArithmeticForms(31);
        int three = forms.value(3, 0);
        CHECK.due("a is the node itself", forms.node(0, 2, 1), -2);
        CHECK.due("b is the node itself", forms.node(0, 1, 2), -2);
        int twice = forms.node(0, three, three);
        CHECK.dueValue("3 + 3, both the same node", forms, twice, "6");
        CHECK.dueValue("6 - 3, the later node first", forms, forms.node(1, twice, three), "3");
        CHECK.dueValue("3 - 6", forms, forms.node(1, three, twice), "-3");
        CHECK.dueValue("3 is as it was", forms, three, "3");
    }

    private static void divisionByZero() {
        CHECK.sentence(3, "Division by 0 is raised as 2.");
        ArithmeticForms forms = new ArithmeticForms(31);
        int zero = forms.value(0, 5);
        int low = Edge.ten(forms, -99);
        int tooSmall = forms.node(2, low, low);
        CHECK.dueRaised("1 / 0", forms, forms.node(3, forms.value(1, 0), zero), 2);
        CHECK.dueRaised("-1 / 0", forms, forms.node(3, forms.value(-1, 0), zero), 2);
        CHECK.dueRaised("0 / 0", forms, forms.node(3, zero, zero), 2);
        CHECK.dueRaised("1 / what is too small", forms, forms.node(3, forms.value(1, 0), tooSmall), 2);
        CHECK.dueRaised("the greatest / 0", forms, forms.node(3, Edge.greatest(forms), zero), 2);
        CHECK.dueValue("1 / 10^-98", forms, forms.node(3, forms.value(1, 0), Edge.ten(forms, -98)), "1e98");
    }

    private static void exponents() {
        CHECK.sentence(3, "b must be whole and -99 .. 99, else 1");
        ArithmeticForms forms = new ArithmeticForms(31);
        int one = forms.value(-1, 0);
        CHECK.dueValue("-1 ^ 99", forms, power(forms, one, 99, 0), "-1");
        CHECK.dueValue("-1 ^ -99", forms, power(forms, one, -99, 0), "-1");
        CHECK.dueValue("-1 ^ 98.0", forms, power(forms, one, 980, 1), "1");
        CHECK.dueValue("-1 ^ 10", forms, power(forms, one, 10, 0), "1");
        CHECK.dueValue("-1 ^ -90", forms, power(forms, one, -90, 0), "1");
        CHECK.dueRaised("-1 ^ 100", forms, power(forms, one, 100, 0), 1);
        CHECK.dueRaised("-1 ^ -100", forms, power(forms, one, -100, 0), 1);
        CHECK.dueRaised("-1 ^ 99.1", forms, power(forms, one, 991, 1), 1);
        CHECK.dueRaised("-1 ^ -99.1", forms, power(forms, one, -991, 1), 1);
        CHECK.dueRaised("-1 ^ 1.5", forms, power(forms, one, 15, 1), 1);
        CHECK.dueRaised("-1 ^ 10^-18", forms, power(forms, one, 1, 18), 1);
        CHECK.dueRaised("-1 ^ 1.0..1", forms, power(forms, one, 1000000000000000001L, 18), 1);
        CHECK.dueRaised("-1 ^ the highest long", forms, power(forms, one, Long.MAX_VALUE, 0), 1);
        // as ints these wrap around to 1, 0 and -1
        CHECK.dueRaised("-1 ^ 4294967297", forms, power(forms, one, 4294967297L, 0), 1);
        CHECK.dueRaised("-1 ^ 4294967296", forms, power(forms, one, 4294967296L, 0), 1);
        CHECK.dueRaised("-1 ^ 4294967295", forms, power(forms, one, 4294967295L, 0), 1);
        CHECK.dueRaised("-1 ^ the greatest", forms, forms.node(4, one, Edge.greatest(forms)), 1);
        CHECK.dueRaised("-1 ^ 10^-99", forms, forms.node(4, one, Edge.ten(forms, -99)), 1);
        int zero = forms.value(0, 0);
        CHECK.dueRaised("0 ^ 0.5", forms, power(forms, zero, 5, 1), 1);
        CHECK.dueRaised("0 ^ -0.5", forms, power(forms, zero, -5, 1), 1);
        CHECK.dueRaised("0 ^ 100", forms, power(forms, zero, 100, 0), 1);
        CHECK.dueRaised("0 ^ -100", forms, power(forms, zero, -100, 0), 1);
        // a precision of 1 cuts 99.5 to 90, which is whole
        ArithmeticForms least = new ArithmeticForms(1);
        CHECK.dueValue("-1 ^ 99.5 of 1 digit", least, power(least, least.value(-1, 0), 995, 1), "1");
    }

    private static void powerZero() {
        CHECK.sentence(3, "b = 0: 1, but of 0: 1 raised");
        ArithmeticForms forms = new ArithmeticForms(31);
        int zero = forms.value(0, 0);
        CHECK.dueValue("7 ^ 0", forms, power(forms, forms.value(7, 0), 0, 0), "1");
        CHECK.dueValue("-0.7 ^ 0", forms, power(forms, forms.value(-7, 1), 0, 18), "1");
        CHECK.dueValue("10^-99 ^ 0", forms, power(forms, Edge.ten(forms, -99), 0, 0), "1");
        CHECK.dueValue("the greatest ^ 0", forms, power(forms, Edge.greatest(forms), 0, 0), "1");
        CHECK.dueRaised("0 ^ 0", forms, forms.node(4, zero, zero), 1);
        CHECK.dueValue("0 ^ 1", forms, power(forms, zero, 1, 0), "0");
        int tooSmall = forms.node(2, Edge.ten(forms, -99), forms.value(1, 1));
        CHECK.dueRaised("what is too small ^ 0", forms, power(forms, tooSmall, 0, 0), 1);
    }

    private static void powerAbove() {
        CHECK.sentence(3, "b above 0: 1 multiplied by a b times (each product cut)");
        ArithmeticForms two = new ArithmeticForms(2);
        // 2.3, 5.2 (of 5.29), 11 (of 11.96), 25 (of 25.3); 27 if it were cut but once, or a square squared
        CHECK.dueValue("2.3 ^ 4 of 2 digits", two, power(two, two.value(23, 1), 4, 0), "25");
        CHECK.dueValue("2.3 ^ 1 of 2 digits", two, power(two, two.value(23, 1), 1, 0), "2.3");
        ArithmeticForms most = new ArithmeticForms(31);
        CHECK.dueValue("2 ^ 99", most, power(most, most.value(2, 0), 99, 0), "633825300114114700748351602688");
        CHECK.dueValue("0 ^ 99", most, power(most, most.value(0, 0), 99, 0), "0");
        // cut but once it would end in 22619
        CHECK.dueValue("9 ^ 99", most, power(most, most.value(9, 0), 99, 0), "2951266543065275214875348022585e64");
        CHECK.dueRaised("11 ^ 99", most, power(most, most.value(11, 0), 99, 0), 1);
        CHECK.dueRaised("10^50 ^ 2", most, power(most, Edge.ten(most, 50), 2, 0), 1);
        CHECK.dueRaised("10^50 ^ 99", most, power(most, Edge.ten(most, 50), 99, 0), 1);
        CHECK.dueValue("10^-50 ^ 2", most, power(most, Edge.ten(most, -50), 2, 0), "0");
        CHECK.dueValue("10^-33 ^ 3", most, power(most, Edge.ten(most, -33), 3, 0), "1e-99");
    }

    private static void powerBelow() {
        CHECK.sentence(3, "below 0: 1 divided by a ^ -b (2 if a is 0)");
        ArithmeticForms forms = new ArithmeticForms(31);
        CHECK.dueValue("2 ^ -1", forms, power(forms, forms.value(2, 0), -1, 0), "0.5");
        CHECK.dueValue("-3 ^ -3", forms, power(forms, forms.value(-3, 0), -3, 0), "-0.03703703703703703703703703703703");
        CHECK.dueValue("10 ^ -98", forms, power(forms, forms.value(10, 0), -98, 0), "1e-98");
        CHECK.dueValue("0.1 ^ -98", forms, power(forms, forms.value(1, 1), -98, 0), "1e98");
        int zero = forms.value(0, 0);
        CHECK.dueRaised("0 ^ -1", forms, power(forms, zero, -1, 0), 2);
        CHECK.dueRaised("0 ^ -99", forms, power(forms, zero, -99, 0), 2);
        // 10 ^ 99 is raised, and so is what it divides
        CHECK.dueRaised("10 ^ -99", forms, power(forms, forms.value(10, 0), -99, 0), 1);
        // 0.1 ^ 99 is 10^-99, and 1 divided by that is 10^99
        CHECK.dueRaised("0.1 ^ -99", forms, power(forms, forms.value(1, 1), -99, 0), 1);
        // 0.01 ^ 50 is below 10^-99, thus 0, by which 1 is divided
        CHECK.dueRaised("0.01 ^ -50", forms, power(forms, forms.value(1, 2), -50, 0), 2);
        ArithmeticForms two = new ArithmeticForms(2);
        // 2.3 ^ 4 is 25 there; dividing by 2.3 four times would give 0.033
        CHECK.dueValue("2.3 ^ -4 of 2 digits", two, power(two, two.value(23, 1), -4, 0), "0.04");
    }

    private static void passedOn() {
        CHECK.sentence(11, "An operation of what is raised is raised so: that of a, else that of b.");
        ArithmeticForms forms = new ArithmeticForms(31);
        int zero = forms.value(0, 0);
        int half = forms.value(5, 1);
        int one = Edge.raisedOne(forms);
        int two = Edge.raisedTwo(forms);
        for (int op = 0; op <= 4; op++) {
            String name = "op " + op + " of ";
            CHECK.dueRaised(name + "1 raised, 2 raised", forms, forms.node(op, one, two), 1);
            CHECK.dueRaised(name + "2 raised, 1 raised", forms, forms.node(op, two, one), 2);
            CHECK.dueRaised(name + "1 raised, 0", forms, forms.node(op, one, zero), 1);
            CHECK.dueRaised(name + "2 raised, 0.5", forms, forms.node(op, two, half), 2);
            CHECK.dueRaised(name + "0, 2 raised", forms, forms.node(op, zero, two), 2);
            CHECK.dueRaised(name + "0, 1 raised", forms, forms.node(op, zero, one), 1);
            CHECK.dueRaised(name + "2 raised, itself", forms, forms.node(op, two, two), 2);
        }
        CHECK.dueRaised("- 1 raised", forms, forms.node(5, one, two), 1);
        CHECK.dueRaised("- 2 raised", forms, forms.node(5, two, zero), 2);
        CHECK.dueValue("- 0.5 with a b that is raised", forms, forms.node(5, half, two), "-0.5");
        int again = forms.node(0, forms.node(2, zero, forms.node(1, half, two)), one);
        CHECK.dueRaised("through three operations", forms, again, 2);
    }

    public static void main(String[] args) {
        numbers();
        values();
        earlier();
        divisionByZero();
        exponents();
        powerZero();
        powerAbove();
        powerBelow();
        passedOn();
        CHECK.end();
    }
}
