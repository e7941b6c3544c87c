/** Promise 8: each receiver's size error by the latest statement. */
public final class Promise08ErrorTest {
    public static void main(String[] args) {
        Check check = new Check("promise 8");
        ArithmeticForms forms = new ArithmeticForms(31);
        forms.receiver(2, 0, 0);
        forms.receiver(3, 0, 0);
        forms.receiver(4, 1, 7);
        check.due("error(1) at first", forms.error(1), false);
        int hundred = forms.value(100, 0);
        int fine = forms.value(125, 2);
        int one = forms.value(1, 0);
        int raised = forms.node(3, one, forms.value(0, 0));
        forms.run(0, hundred, true);
        check.due("error(1) of 100", forms.error(1), true);
        check.due("error(2) of 100", forms.error(2), false);
        check.due("error(3) of 100", forms.error(3), false);
        forms.run(0, fine, false);
        check.due("error(1) of 1.25", forms.error(1), false);
        check.due("error(2) of 1.25", forms.error(2), false);
        check.due("error(3) of 1.25", forms.error(3), true);
        forms.run(5, one, true);
        forms.run(0, 99, true);
        check.due("error(1) after refusals", forms.error(1), false);
        check.due("error(3) after refusals", forms.error(3), true);
        forms.run(2, raised, false);
        for (int i = 1; i <= 3; i++) {
            check.due("error(" + i + ") of what is raised", forms.error(i), true);
        }
        check.due("receiver", forms.receiver(2, 0, 0), 4);
        check.due("error(4) of a new one", forms.error(4), false);
        forms.run(0, hundred, false);
        check.due("error(1) without the phrase", forms.error(1), true);
        check.due("error(4) without the phrase", forms.error(4), true);
        forms.run(0, one, false);
        for (int i = 1; i <= 4; i++) {
            check.due("error(" + i + ") of 1", forms.error(i), false);
        }
        forms.run(0, raised, false);
        check.due("error(0)", forms.error(0), false);
        check.due("error(5)", forms.error(5), false);
        check.due("error(-1)", forms.error(-1), false);
        check.due("error(lowest)", forms.error(Integer.MIN_VALUE), false);
        check.due("error(highest)", forms.error(Integer.MAX_VALUE), false);
        check.end();
    }
}
