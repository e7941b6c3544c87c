/** Promise 5: statements of the five kinds, the eight roundings, size errors with and without the phrase. */
public final class Promise05RunTest {
    private static final Check CHECK = new Check("promise 5");

    /** What the roundings 0 .. 6 make of a value at scale 0. */
    private static void roundings(long v, int scale, long... want) {
        ArithmeticForms forms = new ArithmeticForms(31);
        for (int rounding = 0; rounding <= 7; rounding++) {
            forms.receiver(9, 0, rounding);
        }
        int good = forms.run(0, forms.value(v, scale), true);
        CHECK.due("receivers stored of " + v + "e-" + scale, good, 7);
        for (int rounding = 0; rounding <= 6; rounding++) {
            CHECK.due(v + "e-" + scale + " by rounding " + rounding, forms.stored(rounding + 1), want[rounding]);
        }
        CHECK.due("raised by the prohibited rounding", forms.raised(), 3);
        CHECK.due("error of the prohibited rounding", forms.error(8), true);
    }

    private static void allRoundings() {
        roundings(24, 1, 2, 3, 2, 2, 2, 3, 2);
        roundings(25, 1, 2, 3, 3, 2, 2, 3, 2);
        roundings(26, 1, 2, 3, 3, 3, 3, 3, 2);
        roundings(35, 1, 3, 4, 4, 4, 3, 4, 3);
        roundings(-24, 1, -2, -3, -2, -2, -2, -2, -3);
        roundings(-25, 1, -2, -3, -3, -2, -2, -2, -3);
        roundings(-26, 1, -2, -3, -3, -3, -3, -2, -3);
        roundings(-35, 1, -3, -4, -4, -4, -3, -3, -4);
        roundings(5, 1, 0, 1, 1, 0, 0, 1, 0);
        roundings(-5, 1, 0, -1, -1, 0, 0, 0, -1);
        roundings(5, 2, 0, 1, 0, 0, 0, 1, 0);
        roundings(-1, 18, 0, -1, 0, 0, 0, 0, -1);
        roundings(500000000000000001L, 18, 0, 1, 1, 1, 1, 1, 0);
        roundings(499999999999999999L, 18, 0, 1, 0, 0, 0, 1, 0);
        roundings(95, 1, 9, 10, 10, 10, 9, 10, 9);
    }

    private static void exactNumbersAreNotRounded() {
        ArithmeticForms forms = new ArithmeticForms(31);
        for (int rounding = 0; rounding <= 7; rounding++) {
            forms.receiver(5, 2, rounding);
        }
        CHECK.due("run(0, -1.25)", forms.run(0, forms.value(-1250, 3), true), 8);
        for (int i = 1; i <= 8; i++) {
            CHECK.due("stored(" + i + ")", forms.stored(i), -125);
            CHECK.due("error(" + i + ")", forms.error(i), false);
        }
        CHECK.due("raised()", forms.raised(), 0);
        CHECK.due("run(0, 0)", forms.run(0, forms.value(0, 0), true), 8);
        CHECK.due("stored(8)", forms.stored(8), 0);
    }

    private static void kinds() {
        ArithmeticForms forms = new ArithmeticForms(31);
        forms.receiver(6, 2, 2);
        int x = forms.value(-3, 0);
        forms.set(1, 1000);
        CHECK.due("10 + -3", forms.run(1, x, true), 1);
        CHECK.due("stored(1)", forms.stored(1), 700);
        CHECK.due("7 - -3", forms.run(2, x, true), 1);
        CHECK.due("stored(1)", forms.stored(1), 1000);
        CHECK.due("10 * -3", forms.run(3, x, true), 1);
        CHECK.due("stored(1)", forms.stored(1), -3000);
        forms.set(1, -2000);
        CHECK.due("-20 / -3", forms.run(4, x, true), 1);
        CHECK.due("stored(1)", forms.stored(1), 667);
        CHECK.due("-3", forms.run(0, x, true), 1);
        CHECK.due("stored(1)", forms.stored(1), -300);
        CHECK.due("run(-1)", forms.run(-1, x, true), -4);
        CHECK.due("run(5)", forms.run(5, x, true), -4);
        CHECK.due("run(5) of no node", forms.run(5, 99, true), -4);
        CHECK.due("run of node 0", forms.run(0, 0, true), -2);
        CHECK.due("run of node 2", forms.run(0, 2, true), -2);
        CHECK.due("run of node -1", forms.run(4, -1, false), -2);
        CHECK.due("stored(1) after refusals", forms.stored(1), -300);
    }

    /** The result is cut to the precision; what the receiver holds is not, before. */
    private static void kindsAreCut() {
        ArithmeticForms forms = new ArithmeticForms(2);
        forms.receiver(9, 0, 2);
        int five = forms.value(5, 0);
        forms.set(1, 12345);
        forms.run(1, five, true);
        CHECK.due("12345 + 5 of 2 digits", forms.stored(1), 12000);
        forms.set(1, 995);
        forms.run(1, five, true);
        CHECK.due("995 + 5 of 2 digits", forms.stored(1), 1000);
        forms.set(1, 1995);
        forms.run(3, five, true);
        CHECK.due("1995 * 5 of 2 digits", forms.stored(1), 9900);
        forms.set(1, 1999);
        forms.run(4, five, true);
        CHECK.due("1999 / 5 of 2 digits", forms.stored(1), 390);
        forms.set(1, 1004);
        forms.run(2, five, true);
        CHECK.due("1004 - 5 of 2 digits", forms.stored(1), 990);
    }

    private static void digits() {
        ArithmeticForms forms = new ArithmeticForms(31);
        forms.receiver(3, 1, 2);
        forms.receiver(6, 1, 2);
        int x = forms.value(-123456, 2);
        CHECK.due("run with the phrase", forms.run(0, x, true), 1);
        CHECK.due("stored(1) stays", forms.stored(1), 0);
        CHECK.due("stored(2)", forms.stored(2), -12346);
        CHECK.due("error(1)", forms.error(1), true);
        CHECK.due("error(2)", forms.error(2), false);
        CHECK.due("raised()", forms.raised(), 1);
        CHECK.due("run without it", forms.run(0, x, false), 1);
        CHECK.due("stored(1)", forms.stored(1), -346);
        CHECK.due("error(1)", forms.error(1), true);
        int edge = forms.value(9995, 2);
        forms.set(1, 7);
        CHECK.due("99.95 rounded up", forms.run(0, edge, true), 1);
        CHECK.due("stored(1) stays", forms.stored(1), 7);
        CHECK.due("99.95 rounded up without", forms.run(0, edge, false), 1);
        CHECK.due("stored(1)", forms.stored(1), 0);
        CHECK.due("99.94", forms.run(0, forms.value(9994, 2), true), 2);
        CHECK.due("stored(1)", forms.stored(1), 999);
    }

    private static void longNumbers() {
        ArithmeticForms forms = new ArithmeticForms(31);
        forms.receiver(18, 0, 2);
        forms.receiver(18, 18, 2);
        int big = forms.node(2, forms.value(1234567890123456789L, 0), forms.value(10000000001L, 0));
        // 12345678902469135780123456789 has 29 digits
        CHECK.due("29 digits", forms.run(0, big, false), 0);
        CHECK.due("lowest 18 of 29", forms.stored(1), 469135780123456789L);
        CHECK.due("lowest 18 at scale 18", forms.stored(2), 0);
        CHECK.due("18 nines fit", forms.run(0, forms.value(999999999999999999L, 0), true), 1);
        CHECK.due("stored(1)", forms.stored(1), 999999999999999999L);
        int over = forms.node(0, forms.value(999999999999999999L, 0), forms.value(5, 1));
        CHECK.due("18 nines and a half", forms.run(0, over, false), 0);
        CHECK.due("stored(1)", forms.stored(1), 0);
        CHECK.due("stored(2): its fraction's digits", forms.stored(2), 500000000000000000L);
        int huge = forms.node(4, forms.value(10, 0), forms.value(98, 0));
        CHECK.due("10^98", forms.run(0, huge, false), 0);
        CHECK.due("stored(1)", forms.stored(1), 0);
        CHECK.due("stored(2)", forms.stored(2), 0);
    }

    /** What is raised but for digits leaves the receiver alone, with the phrase and without. */
    private static void raisedStays() {
        ArithmeticForms forms = new ArithmeticForms(31);
        forms.receiver(5, 0, 0);
        forms.receiver(5, 0, 7);
        int zero = forms.value(0, 0);
        int byZero = forms.node(3, zero, zero);
        int inexact = forms.value(15, 1);
        int huge = forms.node(4, forms.value(10, 0), forms.value(98, 0));
        for (int turn = 0; turn < 2; turn++) {
            boolean phrase = turn == 0;
            forms.set(1, 42);
            forms.set(2, 43);
            for (int kind = 0; kind <= 4; kind++) {
                CHECK.due("kind " + kind + " of what is raised", forms.run(kind, byZero, phrase), 0);
                CHECK.due("raised()", forms.raised(), 2);
            }
            CHECK.due("division by 0", forms.run(4, zero, phrase), 0);
            CHECK.due("raised()", forms.raised(), 2);
            CHECK.due("stored(1)", forms.stored(1), 42);
            CHECK.due("stored(2)", forms.stored(2), 43);
            CHECK.due("inexact", forms.run(0, inexact, phrase), 1);
            CHECK.due("stored(1)", forms.stored(1), 1);
            CHECK.due("stored(2)", forms.stored(2), 43);
            forms.set(1, 99);
            CHECK.due("99 * 10^98", forms.run(3, huge, phrase), 0);
            CHECK.due("stored(1)", forms.stored(1), 99);
            CHECK.due("stored(2)", forms.stored(2), 43);
            CHECK.due("raised()", forms.raised(), 1);
        }
    }

    private static void noReceivers() {
        ArithmeticForms forms = new ArithmeticForms(31);
        CHECK.due("run with no receivers", forms.run(0, forms.value(1, 0), true), 0);
        CHECK.due("raised()", forms.raised(), 0);
    }

    public static void main(String[] args) {
        allRoundings();
        exactNumbersAreNotRounded();
        kinds();
        kindsAreCut();
        digits();
        longNumbers();
        raisedStays();
        noReceivers();
        CHECK.end();
    }
}
