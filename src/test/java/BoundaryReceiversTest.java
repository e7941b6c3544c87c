/** The boundary cases in what the terms say of receivers: their numbers, digits and scales, the eight roundings. */
public final class BoundaryReceiversTest {
    private static final Check CHECK = new Check("boundaries of receivers");

    private static void numbers() {
        CHECK.sentence(4, "RECEIVERS are numbered from 1 on (at most 20)");
        ArithmeticForms forms = new ArithmeticForms(31);
        CHECK.due("set(1, 5) before there is one", forms.set(1, 5), -2);
        CHECK.due("the first", forms.receiver(3, 0, 0), 1);
        CHECK.due("a refused one", forms.receiver(0, 0, 0), -4);
        for (int i = 2; i <= 20; i++) {
            CHECK.due("set(" + i + ", 5) before it is made", forms.set(i, 5), -2);
            CHECK.due("receiver " + i, forms.receiver(3, 0, 0), i);
        }
        CHECK.due("one too many", forms.receiver(3, 0, 0), ArithmeticForms.NONE);
        CHECK.due("set(21, 5)", forms.set(21, 5), -2);
        CHECK.due("all twenty are given to", forms.run(0, forms.value(7, 0), true), 20);
        CHECK.due("stored(1)", forms.stored(1), 7);
        CHECK.due("stored(20)", forms.stored(20), 7);
        CHECK.due("stored(21)", forms.stored(21), 0);
    }

    private static void kept(int digits, int scale, int rounding) {
        ArithmeticForms forms = new ArithmeticForms(31);
        CHECK.due("receiver(" + digits + ", " + scale + ", " + rounding + ")", forms.receiver(digits, scale, rounding), 1);
    }

    private static void refused(int digits, int scale, int rounding) {
        ArithmeticForms forms = new ArithmeticForms(31);
        CHECK.due("receiver(" + digits + ", " + scale + ", " + rounding + ")", forms.receiver(digits, scale, rounding), -4);
        CHECK.due("set(1, 5) after it", forms.set(1, 5), -2);
    }

    private static void digits() {
        CHECK.sentence(4, "1 .. 18 DIGITS");
        kept(1, 0, 0);
        kept(18, 0, 0);
        refused(0, 0, 0);
        refused(-1, 0, 0);
        refused(19, 0, 0);
        refused(Integer.MIN_VALUE, 0, 0);
        refused(Integer.MAX_VALUE, 0, 0);
        ArithmeticForms forms = new ArithmeticForms(31);
        forms.receiver(1, 0, 0);
        forms.receiver(18, 0, 0);
        CHECK.due("9 in both", forms.run(0, forms.value(9, 0), true), 2);
        CHECK.due("10 in the wider one", forms.run(0, forms.value(10, 0), true), 1);
        CHECK.due("18 nines in the wider one", forms.run(0, forms.value(999999999999999999L, 0), true), 1);
        CHECK.due("stored(2)", forms.stored(2), 999999999999999999L);
        CHECK.due("-10^18 in none", forms.run(0, forms.value(-1000000000000000000L, 0), true), 0);
    }

    private static void scales() {
        CHECK.sentence(4, "a SCALE 0 .. digits");
        kept(1, 1, 0);
        kept(5, 5, 0);
        kept(18, 18, 0);
        refused(1, 2, 0);
        refused(5, 6, 0);
        refused(18, 19, 0);
        refused(5, -1, 0);
        refused(5, Integer.MIN_VALUE, 0);
        refused(5, Integer.MAX_VALUE, 0);
        ArithmeticForms forms = new ArithmeticForms(31);
        forms.receiver(18, 18, 0);
        forms.receiver(1, 1, 0);
        CHECK.due("0.9 in both", forms.run(0, forms.value(9, 1), true), 2);
        CHECK.due("stored(1)", forms.stored(1), 900000000000000000L);
        CHECK.due("stored(2)", forms.stored(2), 9);
        CHECK.due("18 nines behind the point", forms.run(0, forms.value(-999999999999999999L, 18), true), 2);
        CHECK.due("stored(1)", forms.stored(1), -999999999999999999L);
        CHECK.due("stored(2)", forms.stored(2), -9);
        CHECK.due("1 in none", forms.run(0, forms.value(1, 0), true), 0);
    }

    private static void roundingNumbers() {
        CHECK.sentence(4, "a ROUNDING");
        for (int rounding = 0; rounding <= 7; rounding++) {
            kept(5, 2, rounding);
        }
        refused(5, 2, -1);
        refused(5, 2, 8);
        refused(5, 2, Integer.MIN_VALUE);
        refused(5, 2, Integer.MAX_VALUE);
    }

    private static void held() {
        CHECK.sentence(4, "each holds a number of 10^-scale (0 at first)");
        ArithmeticForms forms = new ArithmeticForms(31);
        forms.receiver(5, 2, 7);
        CHECK.due("stored(1) at first", forms.stored(1), 0);
        forms.set(1, 777);
        forms.receiver(5, 2, 7);
        CHECK.due("stored(2) at first", forms.stored(2), 0);
        CHECK.due("0 + 1.25", forms.run(1, forms.value(125, 2), true), 2);
        CHECK.due("7.77 + 1.25", forms.stored(1), 902);
        CHECK.due("0 + 1.25", forms.stored(2), 125);
    }

    /** What one rounding makes of a node's value, at scale 0. */
    private static void rounds(ArithmeticForms forms, String call, int node, int rounding, long want) {
        int made = forms.receiver(18, 0, rounding);
        forms.run(0, node, true);
        CHECK.due(call + " by " + rounding + ": an error", forms.error(made), false);
        CHECK.due(call + " by " + rounding, forms.stored(made), want);
    }

    /** The values are of scale 2: 150 is 1.5. */
    private static void row(int rounding, long[] values, long[] want) {
        ArithmeticForms forms = new ArithmeticForms(31);
        for (int i = 0; i < values.length; i++) {
            rounds(forms, values[i] + "e-2", forms.value(values[i], 2), rounding, want[i]);
        }
    }

    private static void towardsZero() {
        CHECK.sentence(5, "0 towards 0");
        row(0, new long[] {1, 50, 99, 100, 101, 199, -1, -50, -99, -100, -101, -199},
                new long[] {0, 0, 0, 1, 1, 1, 0, 0, 0, -1, -1, -1});
        ArithmeticForms forms = new ArithmeticForms(31);
        rounds(forms, "10^-99", Edge.ten(forms, -99), 0, 0);
        int below = forms.node(1, forms.value(1, 0), Edge.ten(forms, -31));
        rounds(forms, "1 - 10^-31", below, 0, 0);
        rounds(forms, "10^-31 - 1", forms.node(5, below, 0), 0, 0);
    }

    private static void awayFromZero() {
        CHECK.sentence(5, "1 away from 0");
        row(1, new long[] {0, 1, 50, 99, 100, 101, 199, -1, -50, -99, -100, -101, -199},
                new long[] {0, 1, 1, 1, 1, 2, 2, -1, -1, -1, -1, -2, -2});
        ArithmeticForms forms = new ArithmeticForms(31);
        int low = Edge.ten(forms, -99);
        rounds(forms, "10^-99", low, 1, 1);
        rounds(forms, "-10^-99", forms.node(5, low, 0), 1, -1);
        rounds(forms, "what is too small", forms.node(3, low, forms.value(2, 0)), 1, 0);
        rounds(forms, "1 + 10^-30", forms.node(0, forms.value(1, 0), Edge.ten(forms, -30)), 1, 2);
    }

    /** A half, and what is a digit below and above it as far as the precision reaches. */
    private static void halves(int rounding, long half, long below, long above) {
        ArithmeticForms forms = new ArithmeticForms(31);
        int five = forms.value(5, 1);
        int tail = Edge.ten(forms, -31);
        int less = forms.node(1, five, tail);
        int more = forms.node(0, five, tail);
        rounds(forms, "0.5", five, rounding, half);
        rounds(forms, "0.5 - 10^-31", less, rounding, below);
        rounds(forms, "0.5 + 10^-31", more, rounding, above);
        rounds(forms, "-0.5", forms.node(5, five, 0), rounding, -half);
        rounds(forms, "10^-31 - 0.5", forms.node(5, less, 0), rounding, -below);
        rounds(forms, "-0.5 - 10^-31", forms.node(5, more, 0), rounding, -above);
        rounds(forms, "10^-99", Edge.ten(forms, -99), rounding, 0);
        rounds(forms, "0.05", forms.value(5, 2), rounding, 0);
        rounds(forms, "0", forms.value(0, 0), rounding, 0);
    }

    private static void nearest() {
        CHECK.sentence(5, "2, 3, 4 to the nearest, halves away from 0, to the even one, towards 0");
        halves(2, 1, 0, 1);
        halves(3, 0, 0, 1);
        halves(4, 0, 0, 1);
        long[] values = {149, 150, 151, 249, 250, 251, 950, -149, -150, -151, -249, -250, -251, -950};
        row(2, values, new long[] {1, 2, 2, 2, 3, 3, 10, -1, -2, -2, -2, -3, -3, -10});
        row(3, values, new long[] {1, 2, 2, 2, 2, 3, 10, -1, -2, -2, -2, -2, -3, -10});
        row(4, values, new long[] {1, 1, 2, 2, 2, 3, 9, -1, -1, -2, -2, -2, -3, -9});
        ArithmeticForms forms = new ArithmeticForms(31);
        forms.receiver(1, 1, 3);
        CHECK.due("0.25 at scale 1", forms.run(0, forms.value(25, 2), true), 1);
        CHECK.due("the even one at scale 1", forms.stored(1), 2);
        CHECK.due("0.35 at scale 1", forms.run(0, forms.value(35, 2), true), 1);
        CHECK.due("the even one at scale 1", forms.stored(1), 4);
        CHECK.due("0.05 at scale 1", forms.run(0, forms.value(5, 2), true), 1);
        CHECK.due("the even one at scale 1", forms.stored(1), 0);
    }

    private static void greaterAndLesser() {
        CHECK.sentence(5, "5 to the greater, 6 to the lesser one");
        long[] values = {0, 1, 50, 99, 100, 101, -1, -50, -99, -100, -101};
        row(5, values, new long[] {0, 1, 1, 1, 1, 2, 0, 0, 0, -1, -1});
        row(6, values, new long[] {0, 0, 0, 0, 1, 1, -1, -1, -1, -1, -2});
        ArithmeticForms forms = new ArithmeticForms(31);
        int low = Edge.ten(forms, -99);
        int minus = forms.node(5, low, 0);
        rounds(forms, "10^-99", low, 5, 1);
        rounds(forms, "-10^-99", minus, 5, 0);
        rounds(forms, "10^-99", low, 6, 0);
        rounds(forms, "-10^-99", minus, 6, -1);
        int small = forms.node(3, minus, forms.value(2, 0));
        rounds(forms, "what is too small", small, 5, 0);
        rounds(forms, "what is too small", small, 6, 0);
    }

    private static void prohibited(ArithmeticForms forms, String call, int node, boolean exact, long want) {
        forms.set(1, 42);
        CHECK.due(call + ": stored", forms.run(0, node, false), exact ? 1 : 0);
        CHECK.due(call + ": raised", forms.raised(), exact ? 0 : 3);
        CHECK.due(call + ": error", forms.error(1), !exact);
        CHECK.due(call + ": held", forms.stored(1), exact ? want : 42);
    }

    private static void prohibited() {
        CHECK.sentence(5, "7 PROHIBITED: raised as 3 unless it is exact.");
        ArithmeticForms forms = new ArithmeticForms(31);
        forms.receiver(3, 2, 7);
        prohibited(forms, "1.25", forms.value(125, 2), true, 125);
        prohibited(forms, "-1.250", forms.value(-1250, 3), true, -125);
        prohibited(forms, "0", forms.value(0, 18), true, 0);
        prohibited(forms, "9", forms.value(9, 0), true, 900);
        prohibited(forms, "1.251", forms.value(1251, 3), false, 0);
        prohibited(forms, "-1.249", forms.value(-1249, 3), false, 0);
        prohibited(forms, "0.001", forms.value(1, 3), false, 0);
        int low = Edge.ten(forms, -99);
        prohibited(forms, "10^-99", low, false, 0);
        prohibited(forms, "what is too small", forms.node(3, low, forms.value(2, 0)), true, 0);
        int tail = Edge.ten(forms, -30);
        prohibited(forms, "1 + 10^-30", forms.node(0, forms.value(1, 0), tail), false, 0);
        int lower = forms.node(3, tail, forms.value(10, 0));
        prohibited(forms, "9 + 10^-31, cut to 9", forms.node(0, forms.value(9, 0), lower), true, 900);
        // inexact and too long: the rounding comes first
        prohibited(forms, "10.001", forms.value(10001, 3), false, 0);
        prohibited(forms, "9.999", forms.value(9999, 3), false, 0);
    }

    public static void main(String[] args) {
        numbers();
        digits();
        scales();
        roundingNumbers();
        held();
        towardsZero();
        awayFromZero();
        nearest();
        greaterAndLesser();
        prohibited();
        CHECK.end();
    }
}
