/** Promise 9: the rest of a division, by its quotient rounded towards 0 at the receiver's scale. */
public final class Promise09RestTest {
    private static final Check CHECK = new Check("promise 9");

    private static void division(int form, int scale, int rounding, long held, long x, int xScale, long[] want) {
        ArithmeticForms forms = new ArithmeticForms(form);
        forms.receiver(18, scale, rounding);
        forms.set(1, held);
        int good = forms.run(4, forms.value(x, xScale), true);
        String call = held + "e-" + scale + " / " + x + "e-" + xScale + " of " + form + " digits, rounding " + rounding;
        CHECK.due(call + ": stored without an error", good, 1);
        CHECK.due(call + ": quotient", forms.stored(1), want[0]);
        CHECK.due(call + ": rest", forms.rest(1), want[1]);
    }

    private static void divisions() {
        for (int rounding = 0; rounding <= 6; rounding++) {
            // 17 / 5 = 3.4: whatever the quotient becomes, the rest is that of 3
            long up = rounding == 1 || rounding == 5 ? 4 : 3;
            division(31, 0, rounding, 17, 5, 0, new long[] {up, 2});
            long down = rounding == 1 || rounding == 6 ? -4 : -3;
            division(31, 0, rounding, -17, 5, 0, new long[] {down, -2});
        }
        division(31, 0, 0, 17, -5, 0, new long[] {-3, 2});
        division(31, 0, 0, -17, -5, 0, new long[] {3, -2});
        division(31, 0, 7, 15, 5, 0, new long[] {3, 0});
        division(31, 0, 0, 3, 5, 0, new long[] {0, 3});
        division(31, 0, 1, 3, 5, 0, new long[] {1, 3});
        division(31, 0, 0, 0, 5, 0, new long[] {0, 0});
        division(31, 2, 0, 1000, 3, 0, new long[] {333, 1});
        division(31, 2, 0, 1000, 3, 2, new long[] {33333, 0});
        division(31, 1, 0, 10, 33, 2, new long[] {30, 0});
        // 10.0 / 0.37 = 27.0: 10.0 - 9.99 = 0.01, cut at its scale
        division(31, 1, 0, 100, 37, 2, new long[] {270, 0});
        division(31, 1, 0, 100, 73, 2, new long[] {136, 0});
        division(31, 1, 0, 100, 173, 2, new long[] {57, 1});
        division(31, 0, 0, 999999999999999999L, 1000000007L, 0, new long[] {999999993L, 48L});
    }

    /** With few digits the quotient, the product and the difference are cut: the rest is what remains of that. */
    private static void fewDigits() {
        // 1234 / 7 = 170 (of 176.2); 7 * 170 = 1100 (of 1190); 1234 - 1100 = 130 (of 134)
        division(2, 0, 0, 1234, 7, 0, new long[] {170, 130});
        // 99 / 7 = 10 (of 14); 7 * 10 = 70; 99 - 70 = 20 (of 29)
        division(1, 0, 0, 99, 7, 0, new long[] {10, 20});
        // -99 / 7 likewise
        division(1, 0, 1, -99, 7, 0, new long[] {-10, -20});
    }

    private static void whenItChanges() {
        ArithmeticForms forms = new ArithmeticForms(31);
        forms.receiver(2, 0, 0);
        forms.receiver(2, 0, 7);
        CHECK.due("rest(1) at first", forms.rest(1), 0);
        int seven = forms.value(7, 0);
        int zero = forms.value(0, 0);
        int tenth = forms.value(1, 1);
        forms.set(1, 38);
        forms.set(2, 70);
        forms.run(4, seven, true);
        CHECK.due("rest(1) of 38 / 7", forms.rest(1), 3);
        CHECK.due("rest(2) of 70 / 7", forms.rest(2), 0);
        for (int kind = 0; kind <= 3; kind++) {
            forms.run(kind, seven, true);
            CHECK.due("rest(1) after kind " + kind, forms.rest(1), 3);
        }
        forms.run(4, 99, true);
        forms.run(5, seven, true);
        CHECK.due("rest(1) after refusals", forms.rest(1), 3);
        forms.run(4, zero, true);
        CHECK.due("rest(1) of a division by 0", forms.rest(1), 0);
        forms.set(1, 38);
        forms.set(2, 38);
        forms.run(4, seven, true);
        CHECK.due("rest(1)", forms.rest(1), 3);
        CHECK.due("rest(2) of a prohibited rounding", forms.rest(2), 0);
        CHECK.due("stored(2) of a prohibited rounding", forms.stored(2), 38);
        forms.set(1, 38);
        forms.run(4, tenth, false);
        CHECK.due("stored(1) of 38 / 0.1 without the phrase", forms.stored(1), 80);
        CHECK.due("rest(1) by a size error", forms.rest(1), 0);
        forms.set(1, 38);
        forms.run(4, seven, true);
        CHECK.due("rest(1) again", forms.rest(1), 3);
        forms.run(4, forms.node(3, seven, zero), true);
        CHECK.due("rest(1) of what is raised", forms.rest(1), 0);
        CHECK.due("rest(0)", forms.rest(0), 0);
        CHECK.due("rest(3)", forms.rest(3), 0);
        CHECK.due("rest(-1)", forms.rest(-1), 0);
        CHECK.due("rest(lowest)", forms.rest(Integer.MIN_VALUE), 0);
        CHECK.due("rest(highest)", forms.rest(Integer.MAX_VALUE), 0);
    }

    /** A size error of digits without the phrase leaves no rest, though there would be one. */
    private static void restOfTooManyDigits() {
        ArithmeticForms forms = new ArithmeticForms(31);
        forms.receiver(2, 0, 0);
        forms.set(1, 99);
        forms.run(4, forms.value(7, 1), false);
        // 99 / 0.7 = 141.4; 99 - 0.7 * 141 = 0.3
        CHECK.due("stored(1)", forms.stored(1), 41);
        CHECK.due("rest(1)", forms.rest(1), 0);
        forms.receiver(3, 2, 0);
        forms.set(2, 999);
        forms.run(4, forms.value(7, 1), false);
        // 9.99 / 0.7 = 14.27: four digits
        CHECK.due("stored(2)", forms.stored(2), 427);
        CHECK.due("rest(2)", forms.rest(2), 0);
    }

    public static void main(String[] args) {
        divisions();
        fewDigits();
        whenItChanges();
        restOfTooManyDigits();
        CHECK.end();
    }
}
