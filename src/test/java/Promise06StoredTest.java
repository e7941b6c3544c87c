/** Promise 6: what a receiver holds. */
public final class Promise06StoredTest {
    public static void main(String[] args) {
        Check check = new Check("promise 6");
        ArithmeticForms forms = new ArithmeticForms(31);
        forms.receiver(5, 2, 0);
        forms.receiver(5, 0, 0);
        check.due("stored(1) at first", forms.stored(1), 0);
        forms.run(0, forms.value(-1239, 3), true);
        check.due("stored(1)", forms.stored(1), -123);
        check.due("stored(2)", forms.stored(2), -1);
        check.due("stored(1) once more", forms.stored(1), -123);
        check.due("stored(0)", forms.stored(0), 0);
        check.due("stored(3)", forms.stored(3), 0);
        check.due("stored(-1)", forms.stored(-1), 0);
        check.due("stored(lowest)", forms.stored(Integer.MIN_VALUE), 0);
        check.due("stored(highest)", forms.stored(Integer.MAX_VALUE), 0);
        forms.receiver(5, 0, 0);
        check.due("stored(3) of a new one", forms.stored(3), 0);
        check.end();
    }
}
