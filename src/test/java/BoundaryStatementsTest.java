/** The boundary cases in what the terms say of statements: the kinds, size errors, what is stored, the rest. */
public final class BoundaryStatementsTest {
    private static final Check CHECK = new Check("boundaries of statements");

    private static void oneByOne() {
        CHECK.sentence(5, "A STATEMENT gives its node's value x to all receivers, one by one");
        ArithmeticForms forms = new ArithmeticForms(31);
        int x = forms.value(125, 1);
        CHECK.due("to no receivers", forms.run(0, x, true), 0);
        CHECK.due("raised() then", forms.raised(), 0);
        for (int i = 1; i <= 20; i++) {
            // every third has too few digits, every fifth may not round
            forms.receiver(i % 3 == 0 ? 1 : 9, i % 3 == 0 ? 1 : 0, i % 5 == 0 ? 7 : 0);
            forms.set(i, i % 3 == 0 ? 3 : i);
        }
        CHECK.due("to twenty, whatever befalls the others", forms.run(1, x, true), 11);
        for (int i = 1; i <= 20; i++) {
            boolean stays = i % 3 == 0 || i % 5 == 0;
            CHECK.due("error(" + i + ")", forms.error(i), stays);
            CHECK.due("stored(" + i + ")", forms.stored(i), i % 3 == 0 ? 3 : i % 5 == 0 ? i : i + 12);
        }
    }

    private static void kinds() {
        CHECK.sentence(5, "kind 0 x; 1 the receiver + x; 2 the receiver - x; 3 the receiver * x; 4 the receiver / x (cut as operations are); rounded.");
        ArithmeticForms two = new ArithmeticForms(2);
        two.receiver(5, 1, 7);
        two.receiver(5, 0, 1);
        int part = two.value(95, 2);
        set(two, 990, 99);
        // the cut comes before the rounding: 99.95 is cut to 99, which is exact
        CHECK.due("99 + 0.95", two.run(1, part, true), 2);
        holds(two, 990, 99);
        set(two, -990, -99);
        CHECK.due("-99 - 0.95", two.run(2, part, true), 2);
        holds(two, -990, -99);
        set(two, 990, 99);
        // 94.05 is cut to 94
        CHECK.due("99 * 0.95", two.run(3, part, true), 2);
        holds(two, 940, 94);
        set(two, 1000, 100);
        // 105.2.. is cut to 100
        CHECK.due("100 / 0.95", two.run(4, part, true), 2);
        holds(two, 1000, 100);
        // x has been cut before: 0.95 is 95 hundredths there
        CHECK.due("0.95", two.run(0, part, true), 1);
        holds(two, 1000, 1);
    }

    private static void set(ArithmeticForms forms, long first, long second) {
        forms.set(1, first);
        forms.set(2, second);
    }

    private static void holds(ArithmeticForms forms, long first, long second) {
        CHECK.due("stored(1)", forms.stored(1), first);
        CHECK.due("stored(2)", forms.stored(2), second);
    }

    /** The reach of a decimal, met by statements: 10^99 is raised, what is below 10^-99 is 0. */
    private static void reach() {
        CHECK.sentence(5, "(cut as operations are)");
        ArithmeticForms forms = new ArithmeticForms(31);
        forms.receiver(5, 0, 0);
        int high = Edge.ten(forms, 98);
        forms.set(1, 9);
        CHECK.due("9 * 10^98 has too many digits", forms.run(3, high, false), 0);
        CHECK.due("its lowest digits", forms.stored(1), 0);
        forms.set(1, -10);
        CHECK.due("-10 * 10^98 is raised", forms.run(3, high, false), 0);
        CHECK.due("it stays", forms.stored(1), -10);
        CHECK.due("raised()", forms.raised(), 1);
        forms.set(1, 10);
        CHECK.due("10 / 10^-98 is raised", forms.run(4, Edge.ten(forms, -98), false), 0);
        CHECK.due("it stays", forms.stored(1), 10);
        forms.set(1, 1);
        CHECK.due("1 / 10^-98 has too many digits", forms.run(4, Edge.ten(forms, -98), false), 0);
        CHECK.due("its lowest digits", forms.stored(1), 0);
        ArithmeticForms small = new ArithmeticForms(31);
        small.receiver(18, 18, 1);
        small.receiver(18, 18, 7);
        set(small, 1, 1);
        CHECK.due("10^-18 * 10^-81", small.run(3, Edge.ten(small, -81), true), 1);
        holds(small, 1, 1);
        CHECK.due("10^-18 * 10^-82 is 0", small.run(3, Edge.ten(small, -82), true), 2);
        holds(small, 0, 0);
        set(small, -1, -1);
        CHECK.due("-10^-18 / 10^81", small.run(4, Edge.ten(small, 81), true), 1);
        holds(small, -1, -1);
        CHECK.due("-10^-18 / 10^82 is 0", small.run(4, Edge.ten(small, 82), true), 2);
        holds(small, 0, 0);
    }

    /** What became of receiver 1, which held 42 before. */
    private static void sizeError(ArithmeticForms forms, String call, int good, int code, long held) {
        CHECK.due(call + ": stored without an error", good, code == 0 ? 1 : 0);
        CHECK.due(call + ": error", forms.error(1), code != 0);
        CHECK.due(call + ": raised", forms.raised(), code);
        CHECK.due(call + ": held", forms.stored(1), held);
        forms.set(1, 42);
    }

    private static ArithmeticForms holding42(int digits, int rounding) {
        ArithmeticForms forms = new ArithmeticForms(31);
        forms.receiver(digits, 0, rounding);
        forms.set(1, 42);
        return forms;
    }

    private static void sizeErrors() {
        CHECK.sentence(5, "If x is raised, or that is, or its rounding, or it has more digits than the receiver: a SIZE ERROR (raised as 1 for digits) of that receiver");
        ArithmeticForms forms = holding42(2, 7);
        int one = Edge.raisedOne(forms);
        int two = Edge.raisedTwo(forms);
        for (int kind = 0; kind <= 4; kind++) {
            sizeError(forms, "x raised as 1, kind " + kind, forms.run(kind, one, true), 1, 42);
            sizeError(forms, "x raised as 2, kind " + kind, forms.run(kind, two, true), 2, 42);
        }
        sizeError(forms, "42 / 0", forms.run(4, forms.value(0, 0), true), 2, 42);
        sizeError(forms, "42 * 10^98", forms.run(3, Edge.ten(forms, 98), true), 1, 42);
        sizeError(forms, "42 + 0.5", forms.run(1, forms.value(5, 1), true), 3, 42);
        sizeError(forms, "42 + 57", forms.run(1, forms.value(57, 0), true), 0, 99);
        sizeError(forms, "42 + 58", forms.run(1, forms.value(58, 0), true), 1, 42);
        sizeError(forms, "42 - 141", forms.run(2, forms.value(141, 0), true), 0, -99);
        sizeError(forms, "42 - 142", forms.run(2, forms.value(142, 0), true), 1, 42);
        ArithmeticForms nearest = holding42(2, 2);
        sizeError(nearest, "99.49", nearest.run(0, nearest.value(9949, 2), true), 0, 99);
        sizeError(nearest, "99.5 rounded to 100", nearest.run(0, nearest.value(995, 1), true), 1, 42);
        sizeError(nearest, "-99.5 rounded to -100", nearest.run(0, nearest.value(-995, 1), true), 1, 42);
        ArithmeticForms wide = holding42(18, 1);
        sizeError(wide, "18 nines", wide.run(0, wide.value(999999999999999999L, 0), true), 0, 999999999999999999L);
        int over = wide.node(0, wide.value(999999999999999999L, 0), wide.value(1, 12));
        sizeError(wide, "18 nines and 10^-12", wide.run(0, over, true), 1, 42);
        sizeError(wide, "-10^18", wide.run(0, wide.value(-1000000000000000000L, 0), true), 1, 42);
        sizeError(wide, "10^98", wide.run(0, Edge.ten(wide, 98), true), 1, 42);
    }

    private static void stays() {
        CHECK.sentence(5, "with the PHRASE, or when something was raised but digits, it stays");
        ArithmeticForms forms = holding42(2, 0);
        sizeError(forms, "100 with the phrase", forms.run(0, forms.value(100, 0), true), 1, 42);
        sizeError(forms, "142 with the phrase", forms.run(1, forms.value(100, 0), true), 1, 42);
        int one = Edge.raisedOne(forms);
        int two = Edge.raisedTwo(forms);
        for (int kind = 0; kind <= 4; kind++) {
            sizeError(forms, "x raised as 1, without it, kind " + kind, forms.run(kind, one, false), 1, 42);
            sizeError(forms, "x raised as 2, without it, kind " + kind, forms.run(kind, two, false), 2, 42);
        }
        sizeError(forms, "42 / 0 without it", forms.run(4, forms.value(0, 0), false), 2, 42);
        sizeError(forms, "42 * 10^98 without it", forms.run(3, Edge.ten(forms, 98), false), 1, 42);
        ArithmeticForms exact = holding42(2, 7);
        sizeError(exact, "0.5 without it", exact.run(0, exact.value(5, 1), false), 3, 42);
        sizeError(exact, "123.5 without it", exact.run(0, exact.value(1235, 1), false), 3, 42);
        sizeError(exact, "123.5 with it", exact.run(0, exact.value(1235, 1), true), 3, 42);
    }

    private static void stored(ArithmeticForms forms, String call, int node, long want) {
        CHECK.due(call + ": stored without an error", forms.run(0, node, false), 0);
        CHECK.due(call + ": error", forms.error(1), true);
        CHECK.due(call + ": raised", forms.raised(), 1);
        CHECK.due(call + ": held", forms.stored(1), want);
    }

    private static void lowestDigits() {
        CHECK.sentence(5, "without, its lowest digits (with the sign) are stored all the same.");
        ArithmeticForms forms = new ArithmeticForms(31);
        forms.receiver(3, 1, 2);
        stored(forms, "1234.56", forms.value(123456, 2), 346);
        stored(forms, "-1234.56", forms.value(-123456, 2), -346);
        stored(forms, "100", forms.value(100, 0), 0);
        stored(forms, "-100.1", forms.value(-1001, 1), -1);
        stored(forms, "99.95", forms.value(9995, 2), 0);
        stored(forms, "-199.95", forms.value(-19995, 2), 0);
        stored(forms, "10^98", Edge.ten(forms, 98), 0);
        ArithmeticForms exact = new ArithmeticForms(31);
        exact.receiver(3, 1, 7);
        stored(exact, "-1234.5, exact where it must be", exact.value(-12345, 1), -345);
        ArithmeticForms wide = new ArithmeticForms(31);
        wide.receiver(18, 18, 2);
        int fraction = wide.value(123456789012345678L, 18);
        int whole = wide.value(9876543210987L, 0);
        stored(wide, "31 digits", wide.node(0, whole, fraction), 123456789012345678L);
        stored(wide, "- 31 digits", wide.node(5, wide.node(0, whole, fraction), 0), -123456789012345678L);
        // 2 - 5 * 10^-19: its 18 nines are rounded up and leave nothing
        int half = wide.node(3, wide.value(5, 18), wide.value(10, 0));
        stored(wide, "1.9..95", wide.node(1, wide.value(2, 0), half), 0);
        stored(wide, "10^13", Edge.ten(wide, 13), 0);
        ArithmeticForms eighteen = new ArithmeticForms(31);
        eighteen.receiver(18, 0, 0);
        stored(eighteen, "the highest long", eighteen.value(Long.MAX_VALUE, 0), 223372036854775807L);
        stored(eighteen, "the lowest long", eighteen.value(Long.MIN_VALUE, 0), -223372036854775808L);
        // 2^99 = 633825300114114700748351602688
        stored(eighteen, "2^99", eighteen.node(4, eighteen.value(2, 0), eighteen.value(99, 0)), 114700748351602688L);
        // 2^64 * 10^6: a long would wrap around to 0
        int wrap = eighteen.node(4, eighteen.value(2, 0), eighteen.value(64, 0));
        stored(eighteen, "2^64", wrap, 446744073709551616L);
        stored(eighteen, "2^64 * 10^6", eighteen.node(2, wrap, eighteen.value(1000000, 0)), 73709551616000000L);
    }

    private static void division(int form, int scale, int rounding, long held, long x, long[] want) {
        ArithmeticForms forms = new ArithmeticForms(form);
        forms.receiver(18, scale, rounding);
        forms.set(1, held);
        int good = forms.run(4, forms.value(x, 2), true);
        String call = held + "e-" + scale + " / " + x + "e-2 of " + form + " digits, rounding " + rounding;
        CHECK.due(call + ": stored without an error", good, 1);
        CHECK.due(call + ": quotient", forms.stored(1), want[0]);
        CHECK.due(call + ": rest", forms.rest(1), want[1]);
    }

    private static void rest() {
        CHECK.sentence(9, "By kind 4 the receiver's REST becomes: what it was less x times the quotient rounded towards 0 at its scale (product and difference cut), itself rounded towards 0 at its scale");
        // the quotient 3.4 is stored as 4, and the rest is that of 3
        division(31, 0, 1, 17, 500, new long[] {4, 2});
        division(31, 0, 1, -17, 500, new long[] {-4, -2});
        division(31, 0, 5, 17, 500, new long[] {4, 2});
        division(31, 0, 6, 17, -500, new long[] {-4, 2});
        division(31, 0, 0, 0, 500, new long[] {0, 0});
        division(31, 0, 0, 4, 500, new long[] {0, 4});
        division(31, 0, 1, -4, 500, new long[] {-1, -4});
        division(31, 0, 7, 15, 500, new long[] {3, 0});
        division(31, 2, 0, 1000, 300, new long[] {333, 1});
        // 10.0 - 0.37 * 27.0 = 0.01, which is 0 at scale 1
        division(31, 1, 0, 100, 37, new long[] {270, 0});
        division(31, 1, 0, -100, 37, new long[] {-270, 0});
        division(31, 1, 1, 100, 37, new long[] {271, 0});
        division(31, 1, 6, -100, 37, new long[] {-271, 0});
        // 1.3 * 76 = 98.8 is cut to 98
        division(2, 0, 0, 99, 130, new long[] {76, 1});
        // 7 * 170 = 1190 is cut to 1100, and 1234 - 1100 = 134 to 130
        division(2, 0, 0, 1234, 700, new long[] {170, 130});
        ArithmeticForms forms = new ArithmeticForms(31);
        forms.receiver(18, 18, 1);
        forms.set(1, 1);
        // the quotient is below 10^-99: nothing is stored, all is left
        CHECK.due("10^-18 / 10^98", forms.run(4, Edge.ten(forms, 98), true), 1);
        CHECK.due("stored(1)", forms.stored(1), 0);
        CHECK.due("rest(1)", forms.rest(1), 1);
    }

    private static void longRest() {
        CHECK.sentence(9, "itself rounded towards 0 at its scale, its lowest 18 digits");
        ArithmeticForms forms = new ArithmeticForms(31);
        forms.receiver(18, 0, 0);
        forms.set(1, 999999999999999999L);
        int more = forms.value(1000000000000000000L, 0);
        CHECK.due("18 nines / 10^18", forms.run(4, more, true), 1);
        CHECK.due("18 nines are left", forms.rest(1), 999999999999999999L);
        forms.set(1, -999999999999999998L);
        CHECK.due("-9..98 / 10^18", forms.run(4, more, true), 1);
        CHECK.due("-9..98 is left", forms.rest(1), -999999999999999998L);
        ArithmeticForms fine = new ArithmeticForms(31);
        fine.receiver(18, 18, 0);
        fine.set(1, 999999999999999999L);
        CHECK.due("0.9.. / 2", fine.run(4, fine.value(2, 0), true), 1);
        CHECK.due("stored(1)", fine.stored(1), 499999999999999999L);
        CHECK.due("10^-18 is left", fine.rest(1), 1);
    }

    /** A division that leaves 1, then one with a size error: neither the 1 is to be left nor what would remain. */
    private static void noRest(ArithmeticForms forms, String call, long held, int x, boolean phrase) {
        forms.set(1, 99);
        CHECK.due("99 / 1.3", forms.run(4, 1, true), 1);
        CHECK.due("rest(1) of 99 / 1.3", forms.rest(1), 1);
        forms.set(1, held);
        CHECK.due(call, forms.run(4, x, phrase), 0);
        CHECK.due(call + ": rest", forms.rest(1), 0);
    }

    private static void noRest() {
        CHECK.sentence(9, "0 by a size error.");
        ArithmeticForms forms = new ArithmeticForms(2);
        forms.value(13, 1);
        forms.receiver(2, 0, 7);
        int one = Edge.raisedOne(forms);
        int two = Edge.raisedTwo(forms);
        int zero = forms.value(0, 0);
        int low = Edge.ten(forms, -98);
        int six = forms.value(6, 0);
        int part = forms.value(13, 2);
        for (int turn = 0; turn < 2; turn++) {
            boolean phrase = turn == 0;
            noRest(forms, "x is raised as 1", 99, one, phrase);
            noRest(forms, "x is raised as 2", 99, two, phrase);
            noRest(forms, "99 / 0", 99, zero, phrase);
            noRest(forms, "99 / 10^-98", 99, low, phrase);
            // the rounding of 0.5 is raised; 3 - 6 * 0 would be 3
            noRest(forms, "3 / 6", 3, six, phrase);
            // 760 has three digits; 0.13 * 760 = 98.8 is cut to 98, and 1 would be left
            noRest(forms, "99 / 0.13", 99, part, phrase);
        }
    }

    public static void main(String[] args) {
        oneByOne();
        kinds();
        reach();
        sizeErrors();
        stays();
        lowestDigits();
        rest();
        longRest();
        noRest();
        CHECK.end();
    }
}
