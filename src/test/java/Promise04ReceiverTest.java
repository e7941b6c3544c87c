/** Promise 4: receivers, what is refused, the twenty. */
public final class Promise04ReceiverTest {
    private static final Check CHECK = new Check("promise 4");

    public static void main(String[] args) {
        ArithmeticForms forms = new ArithmeticForms(31);
        int[][] wrong = {
            {0, 0, 0}, {-1, 0, 0}, {19, 0, 0}, {5, -1, 0}, {5, 6, 0}, {18, 19, 0}, {5, 2, -1}, {5, 2, 8},
            {Integer.MIN_VALUE, 0, 0}, {Integer.MAX_VALUE, 0, 0}, {5, Integer.MIN_VALUE, 0}, {5, Integer.MAX_VALUE, 0},
            {5, 2, Integer.MIN_VALUE}, {5, 2, Integer.MAX_VALUE}
        };
        for (int[] w : wrong) {
            CHECK.due("receiver(" + w[0] + ", " + w[1] + ", " + w[2] + ")", forms.receiver(w[0], w[1], w[2]), -4);
        }
        CHECK.due("receiver(1, 0, 0)", forms.receiver(1, 0, 0), 1);
        CHECK.due("receiver(1, 1, 7)", forms.receiver(1, 1, 7), 2);
        CHECK.due("receiver(18, 0, 1)", forms.receiver(18, 0, 1), 3);
        CHECK.due("receiver(18, 18, 6)", forms.receiver(18, 18, 6), 4);
        for (int i = 5; i <= 20; i++) {
            CHECK.due("receiver " + i, forms.receiver(9, 2, i % 8), i);
        }
        CHECK.due("receiver 21", forms.receiver(9, 2, 0), -1);
        CHECK.due("a wrong one with 20", forms.receiver(0, 0, 0), -4);
        CHECK.due("set(20, 5)", forms.set(20, 5), 1);
        CHECK.due("set(21, 5)", forms.set(21, 5), -2);
        // each one keeps its own digits, scale and rounding
        int tenth = forms.value(1, 1);
        CHECK.due("run(0, 0.1)", forms.run(0, tenth, true), 20);
        CHECK.due("stored(1)", forms.stored(1), 0);
        CHECK.due("stored(2)", forms.stored(2), 1);
        CHECK.due("stored(3)", forms.stored(3), 1);
        CHECK.due("stored(4)", forms.stored(4), 100000000000000000L);
        CHECK.due("stored(20)", forms.stored(20), 10);
        CHECK.end();
    }
}
