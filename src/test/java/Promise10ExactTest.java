/** Promise 10: a node's sign, digits and exponent; NONE; what is thrown. */
public final class Promise10ExactTest {
    private static final Check CHECK = new Check("promise 10");

    private static void sides(ArithmeticForms forms, int node, long sign, long exponent, int... digits) {
        CHECK.due("sign of node " + node, forms.exact(node, 0), sign);
        CHECK.due("digits of node " + node, forms.exact(node, 1), digits.length);
        CHECK.due("exponent of node " + node, forms.exact(node, 2), exponent);
        for (int i = 0; i < digits.length; i++) {
            CHECK.due("digit " + i + " of node " + node, forms.exact(node, 3 + i), digits[i]);
        }
        CHECK.due("no digit more of node " + node, forms.exact(node, 3 + digits.length), -1);
    }

    public static void main(String[] args) {
        ArithmeticForms forms = new ArithmeticForms(31);
        sides(forms, forms.value(0, 7), 0, 0);
        sides(forms, forms.value(120300, 1), 1, 1, 1, 2, 0, 3);
        sides(forms, forms.value(-5, 18), -1, -18, 5);
        sides(forms, forms.value(-1000000000000000000L, 0), -1, 18, 1);
        sides(forms, forms.value(1234567890, 0), 1, 1, 1, 2, 3, 4, 5, 6, 7, 8, 9);
        sides(forms, forms.node(1, 2, 2), 0, 0);
        int[] sixes = new int[31];
        java.util.Arrays.fill(sixes, 6);
        int twoThirds = forms.node(3, forms.value(-2, 0), forms.value(3, 0));
        sides(forms, twoThirds, -1, -31, sixes);

        CHECK.due("exact(2, -1)", forms.exact(2, -1), -1);
        CHECK.due("exact(2, lowest)", forms.exact(2, Integer.MIN_VALUE), -1);
        CHECK.due("exact(2, highest)", forms.exact(2, Integer.MAX_VALUE), -1);
        CHECK.due("exact(2, 34)", forms.exact(2, 34), -1);
        CHECK.due("exact(twoThirds, 33)", forms.exact(twoThirds, 33), 6);
        CHECK.due("exact(twoThirds, 35)", forms.exact(twoThirds, 35), -1);
        CHECK.due("exact(0, 0)", forms.exact(0, 0), -1);
        CHECK.due("exact(-1, 1)", forms.exact(-1, 1), -1);
        CHECK.due("exact(99, 2)", forms.exact(99, 2), -1);
        CHECK.due("exact(lowest, 0)", forms.exact(Integer.MIN_VALUE, 0), -1);
        CHECK.due("exact(highest, 0)", forms.exact(Integer.MAX_VALUE, 0), -1);

        int raised = forms.node(3, 2, 1);
        for (int side = 0; side < 40; side++) {
            CHECK.due("exact(raised, " + side + ") throws", Check.throwsArithmetic(forms, raised, side), true);
        }
        CHECK.due("exact(raised, highest) throws", Check.throwsArithmetic(forms, raised, Integer.MAX_VALUE), true);
        CHECK.due("exact(raised, -1) throws", Check.throwsArithmetic(forms, raised, -1), false);
        CHECK.due("exact(raised, -1)", forms.exact(raised, -1), -1);
        sides(forms, 2, 1, 1, 1, 2, 0, 3);
        CHECK.end();
    }
}
