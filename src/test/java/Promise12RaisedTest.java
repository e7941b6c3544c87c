/** Promise 12: what the latest statement raised latest. */
public final class Promise12RaisedTest {
    public static void main(String[] args) {
        Check check = new Check("promise 12");
        ArithmeticForms forms = new ArithmeticForms(31);
        check.due("raised() at first", forms.raised(), 0);
        int zero = forms.value(0, 0);
        int one = forms.value(1, 0);
        int byZero = forms.node(3, one, zero);
        int size = forms.node(4, zero, zero);
        check.due("raised() after nodes that raise", forms.raised(), 0);
        forms.receiver(9, 0, 7);
        forms.receiver(1, 0, 0);
        forms.receiver(9, 3, 0);
        int mixed = forms.value(105, 1);
        // the first raises 3, the second 1 for digits, the third nothing
        check.due("run(0, 10.5)", forms.run(0, mixed, true), 1);
        check.due("raised() of 3, 1, nothing", forms.raised(), 1);
        check.due("run(0, 1.5)", forms.run(0, forms.value(15, 1), true), 2);
        check.due("raised() of 3, nothing, nothing", forms.raised(), 3);
        check.due("run(0, byZero)", forms.run(0, byZero, false), 0);
        check.due("raised() of a division by 0", forms.raised(), 2);
        check.due("run(5, ..)", forms.run(5, one, true), -4);
        check.due("run(0, 99)", forms.run(0, 99, true), -2);
        check.due("raised() after refusals", forms.raised(), 2);
        check.due("run(0, size)", forms.run(0, size, false), 0);
        check.due("raised() of 0 ^ 0", forms.raised(), 1);
        check.due("run(4, zero)", forms.run(4, zero, true), 0);
        check.due("raised() of a receiver by 0", forms.raised(), 2);
        check.due("run(0, one)", forms.run(0, one, true), 3);
        check.due("raised() of nothing", forms.raised(), 0);
        forms.receiver(9, 0, 7);
        check.due("run(0, 10.5) once more", forms.run(0, mixed, false), 1);
        check.due("raised() of 3, 1, nothing, 3", forms.raised(), 3);
        check.due("run(0, ten)", forms.run(0, forms.value(10, 0), false), 3);
        check.due("raised() of digits without the phrase", forms.raised(), 1);
        check.end();
    }
}
