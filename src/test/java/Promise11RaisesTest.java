/** Promise 11: what a node raises, and how it goes on through its operations. */
public final class Promise11RaisesTest {
    public static void main(String[] args) {
        Check check = new Check("promise 11");
        ArithmeticForms forms = new ArithmeticForms(31);
        int zero = forms.value(0, 0);
        int one = forms.value(1, 0);
        int size = forms.node(4, zero, zero);
        int byZero = forms.node(3, one, zero);
        int half = forms.value(5, 1);
        check.due("raises of a value", forms.raises(one), 0);
        check.due("raises of 0", forms.raises(zero), 0);
        check.due("raises of 0 ^ 0", forms.raises(size), 1);
        check.due("raises of 1 / 0", forms.raises(byZero), 2);
        check.due("raises of 0 / 0", forms.raises(forms.node(3, zero, zero)), 2);
        for (int op = 0; op <= 4; op++) {
            check.due("op " + op + " of 1 raised, 2 raised", forms.raises(forms.node(op, size, byZero)), 1);
            check.due("op " + op + " of 2 raised, 1 raised", forms.raises(forms.node(op, byZero, size)), 2);
            check.due("op " + op + " of 2 raised, 0", forms.raises(forms.node(op, byZero, zero)), 2);
            check.due("op " + op + " of 1 raised, 0", forms.raises(forms.node(op, size, zero)), 1);
            check.due("op " + op + " of 0, 2 raised", forms.raises(forms.node(op, zero, byZero)), 2);
            check.due("op " + op + " of 1, 1 raised", forms.raises(forms.node(op, one, size)), 1);
            check.due("op " + op + " of 2 raised, 0.5", forms.raises(forms.node(op, byZero, half)), 2);
        }
        check.due("- of 1 raised", forms.raises(forms.node(5, size, one)), 1);
        check.due("- of 2 raised", forms.raises(forms.node(5, byZero, size)), 2);
        check.due("- of 1", forms.raises(forms.node(5, one, size)), 0);
        check.due("raises(0)", forms.raises(0), -2);
        check.due("raises(-1)", forms.raises(-1), -2);
        check.due("raises(99)", forms.raises(99), -2);
        check.due("raises(lowest)", forms.raises(Integer.MIN_VALUE), -2);
        check.due("raises(highest)", forms.raises(Integer.MAX_VALUE), -2);
        forms.receiver(1, 0, 0);
        forms.run(0, byZero, true);
        check.due("raises of a value after a statement", forms.raises(one), 0);
        check.end();
    }
}
