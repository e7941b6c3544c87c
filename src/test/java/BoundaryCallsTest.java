/** The boundary cases that the promises themselves name, one after the other: what is held, refused, full or absent. */
public final class BoundaryCallsTest {
    private static final Check CHECK = new Check("boundaries of calls");
    private static final int[] OUTSIDE = {0, -1, 2, 101, Integer.MIN_VALUE, Integer.MAX_VALUE};

    private static void uses() {
        CHECK.sentence(5, "An object is used for at most 512 calls after it has been made");
        ArithmeticForms full = new ArithmeticForms(31);
        for (int call = 1; call <= 100; call++) {
            CHECK.due("call " + call + ", a value", full.value(call, 0), call);
        }
        for (int call = 101; call <= 120; call++) {
            CHECK.due("call " + call + ", a receiver", full.receiver(18, 0, 0), call - 100);
        }
        for (int call = 121; call <= 511; call++) {
            CHECK.due("call " + call + ", a statement", full.run(1, 100, true), 20);
        }
        CHECK.due("call 512", full.stored(20), 39100);
        ArithmeticForms idle = new ArithmeticForms(31);
        for (int call = 1; call <= 511; call++) {
            CHECK.due("call " + call + ", refused", idle.run(0, 1, true), -2);
        }
        CHECK.due("call 512, a value", idle.value(1, 0), 1);
    }

    private static void precision(int form, int digits) {
        ArithmeticForms forms = new ArithmeticForms(form);
        int third = forms.node(3, forms.value(-1, 0), forms.value(3, 0));
        CHECK.dueSides("-1 / 3 with form " + form, forms, third, -1, "3".repeat(digits), -digits);
    }

    private static void precisions() {
        CHECK.sentence(1, "A precision of 1 .. 31 digits (numbers outside are held to these)");
        precision(1, 1);
        precision(2, 2);
        precision(30, 30);
        precision(31, 31);
        precision(0, 1);
        precision(-1, 1);
        precision(Integer.MIN_VALUE, 1);
        precision(32, 31);
        precision(33, 31);
        precision(Integer.MAX_VALUE, 31);
    }

    private static void nothingYet() {
        CHECK.sentence(1, "no nodes, no receivers.");
        ArithmeticForms filled = new ArithmeticForms(31);
        filled.value(1, 0);
        filled.receiver(1, 0, 0);
        ArithmeticForms forms = new ArithmeticForms(31);
        CHECK.due("raises(1)", forms.raises(1), -2);
        CHECK.due("exact(1, 1)", forms.exact(1, 1), -1);
        CHECK.due("node(5, 1, 1)", forms.node(5, 1, 1), -2);
        CHECK.due("run(0, 1, true)", forms.run(0, 1, true), -2);
        CHECK.due("set(1, 1)", forms.set(1, 1), -2);
        CHECK.due("stored(1)", forms.stored(1), 0);
        CHECK.due("error(1)", forms.error(1), false);
        CHECK.due("rest(1)", forms.rest(1), 0);
        CHECK.due("raised()", forms.raised(), 0);
        CHECK.due("the first node", forms.value(1, 0), 1);
        CHECK.due("no receivers to give it to", forms.run(0, 1, true), 0);
        CHECK.due("the first receiver", forms.receiver(1, 0, 0), 1);
    }

    private static void scales() {
        CHECK.sentence(2, "-4 scale is not 0 .. 18");
        ArithmeticForms forms = new ArithmeticForms(31);
        for (int scale : new int[] {-1, 19, -18, Integer.MIN_VALUE, Integer.MAX_VALUE}) {
            CHECK.due("value(1, " + scale + ")", forms.value(1, scale), -4);
        }
        CHECK.due("no node was made", forms.raises(1), -2);
        CHECK.due("value(7, 0)", forms.value(7, 0), 1);
        CHECK.due("value(7, 18)", forms.value(7, 18), 2);
        CHECK.dueValue("value(7, 0)", forms, 1, "7");
        CHECK.dueValue("value(7, 18)", forms, 2, "7e-18");
    }

    private static ArithmeticForms withNodes(int count) {
        ArithmeticForms forms = new ArithmeticForms(31);
        for (int i = 1; i <= count; i++) {
            CHECK.due("value " + i, forms.value(i, 0), i);
        }
        return forms;
    }

    private static void valuesFull() {
        CHECK.sentence(2, "NONE when there are 100.");
        ArithmeticForms forms = withNodes(99);
        CHECK.due("the 100th", forms.value(-5, 1), 100);
        CHECK.due("the 101st", forms.value(7, 0), -1);
        CHECK.due("the 101st again", forms.value(7, 18), -1);
        CHECK.due("a wrong scale is told all the same", forms.value(7, 19), -4);
        CHECK.due("raises(101)", forms.raises(101), -2);
        CHECK.dueValue("the 100th", forms, 100, "-0.5");
        CHECK.dueValue("the first", forms, 1, "1");
    }

    private static void operations() {
        CHECK.sentence(3, "-4 op is not 0 .. 5");
        ArithmeticForms forms = withNodes(2);
        for (int op : new int[] {-1, 6, Integer.MIN_VALUE, Integer.MAX_VALUE}) {
            CHECK.due("node(" + op + ", 1, 2)", forms.node(op, 1, 2), -4);
            CHECK.due("node(" + op + ", 9, 9), with no such nodes", forms.node(op, 9, 9), -4);
        }
        CHECK.due("no node was made", forms.raises(3), -2);
        CHECK.due("node(0, 1, 2)", forms.node(0, 1, 2), 3);
        CHECK.due("node(5, 1, 2)", forms.node(5, 1, 2), 4);
        CHECK.dueValue("1 + 2", forms, 3, "3");
        CHECK.dueValue("- 1", forms, 4, "-1");
    }

    private static void noSuchNodes() {
        CHECK.sentence(3, "-2 no such nodes (b doesn't matter for 5)");
        ArithmeticForms forms = withNodes(1);
        for (int number : OUTSIDE) {
            for (int op = 0; op <= 4; op++) {
                CHECK.due("node(" + op + ", " + number + ", 1)", forms.node(op, number, 1), -2);
                CHECK.due("node(" + op + ", 1, " + number + ")", forms.node(op, 1, number), -2);
                CHECK.due("node(" + op + ", both " + number + ")", forms.node(op, number, number), -2);
            }
            CHECK.due("node(5, " + number + ", 1)", forms.node(5, number, 1), -2);
        }
        CHECK.due("no node was made", forms.raises(2), -2);
        int made = 1;
        for (int number : new int[] {0, -1, 101, Integer.MIN_VALUE, Integer.MAX_VALUE}) {
            made++;
            CHECK.due("node(5, 1, " + number + ")", forms.node(5, 1, number), made);
            CHECK.dueValue("- 1 with b " + number, forms, made, "-1");
        }
    }

    private static void nodesFull() {
        CHECK.sentence(3, "-2 no such nodes (b doesn't matter for 5); NONE.");
        ArithmeticForms forms = withNodes(99);
        CHECK.due("the 100th", forms.node(1, 99, 1), 100);
        for (int op = 0; op <= 5; op++) {
            CHECK.due("the 101st, op " + op, forms.node(op, 100, 1), -1);
        }
        CHECK.due("a wrong op is told all the same", forms.node(6, 100, 1), -4);
        CHECK.due("no such node is told all the same", forms.node(0, 101, 1), -2);
        CHECK.due("no such b is told all the same", forms.node(0, 1, 101), -2);
        CHECK.due("no such b does not matter", forms.node(5, 1, 101), -1);
        CHECK.due("raises(101)", forms.raises(101), -2);
        CHECK.dueValue("the 100th", forms, 100, "98");
    }

    private static void receiversFull() {
        CHECK.sentence(4, "A new receiver: its number; -4, NONE.");
        ArithmeticForms forms = new ArithmeticForms(31);
        CHECK.due("a wrong one first", forms.receiver(3, 4, 0), -4);
        for (int i = 1; i <= 20; i++) {
            CHECK.due("receiver " + i, forms.receiver(18, 18, 7), i);
        }
        CHECK.due("the 21st", forms.receiver(1, 0, 0), -1);
        CHECK.due("the 21st again", forms.receiver(1, 0, 0), -1);
        CHECK.due("wrong digits are told all the same", forms.receiver(19, 0, 0), -4);
        CHECK.due("a wrong scale is told all the same", forms.receiver(3, 4, 0), -4);
        CHECK.due("a wrong rounding is told all the same", forms.receiver(3, 0, 8), -4);
        CHECK.due("set(20, 18 nines)", forms.set(20, 999999999999999999L), 1);
        CHECK.due("the 20th is as it was made", forms.stored(20), 999999999999999999L);
        CHECK.due("set(21, 1)", forms.set(21, 1), -2);
    }

    private static void howMany() {
        CHECK.sentence(5, "how many receivers were stored without a size error");
        ArithmeticForms forms = withNodes(10);
        CHECK.due("of none", forms.run(0, 1, true), 0);
        for (int i = 1; i <= 20; i++) {
            forms.receiver(i <= 10 ? 1 : 2, 0, 0);
        }
        CHECK.due("of twenty", forms.run(0, 9, true), 20);
        CHECK.due("the half of them", forms.run(0, 10, true), 10);
        CHECK.due("the half of them: what is stored all the same is not counted", forms.run(0, 10, false), 10);
        CHECK.due("none of them", forms.run(0, Edge.raisedTwo(forms), false), 0);
        CHECK.due("0 is stored, too", forms.run(0, forms.value(0, 0), false), 20);
    }

    /** A receiver with an error, a rest and something raised, by the latest statement; node 1, the only one, is 7. */
    private static ArithmeticForms afterAStatement() {
        ArithmeticForms forms = new ArithmeticForms(31);
        forms.value(7, 0);
        forms.receiver(2, 0, 0);
        forms.receiver(2, 0, 7);
        forms.set(1, 38);
        forms.set(2, 39);
        CHECK.due("38 / 7, 39 / 7 prohibited", forms.run(4, 1, true), 1);
        return forms;
    }

    private static void isAsItWas(ArithmeticForms forms) {
        CHECK.due("stored(1) is as it was", forms.stored(1), 5);
        CHECK.due("stored(2) is as it was", forms.stored(2), 39);
        CHECK.due("error(1) is as it was", forms.error(1), false);
        CHECK.due("error(2) is as it was", forms.error(2), true);
        CHECK.due("rest(1) is as it was", forms.rest(1), 3);
        CHECK.due("raised() is as it was", forms.raised(), 3);
    }

    private static void kinds() {
        CHECK.sentence(5, "-4 kind is not 0 .. 4");
        ArithmeticForms forms = afterAStatement();
        for (int kind : new int[] {-1, 5, Integer.MIN_VALUE, Integer.MAX_VALUE}) {
            CHECK.due("run(" + kind + ", 1, false)", forms.run(kind, 1, false), -4);
            CHECK.due("run(" + kind + ", 9, true), with no such node", forms.run(kind, 9, true), -4);
        }
        isAsItWas(forms);
        CHECK.due("run(0, 1, true)", forms.run(0, 1, true), 2);
        CHECK.due("run(4, 1, true)", forms.run(4, 1, true), 2);
        CHECK.due("7 / 7", forms.stored(2), 1);
    }

    private static void noSuchNode() {
        CHECK.sentence(5, "-2 no such node.");
        ArithmeticForms forms = afterAStatement();
        for (int root : OUTSIDE) {
            for (int kind = 0; kind <= 4; kind++) {
                CHECK.due("run(" + kind + ", " + root + ", false)", forms.run(kind, root, false), -2);
            }
        }
        isAsItWas(forms);
    }

    private static void storedOfNone() {
        CHECK.sentence(6, "What a receiver holds; 0 when there is none such.");
        ArithmeticForms forms = new ArithmeticForms(31);
        CHECK.due("stored(1) before there is one", forms.stored(1), 0);
        forms.receiver(18, 9, 0);
        forms.set(1, -999999999999999999L);
        CHECK.due("18 nines below 0", forms.stored(1), -999999999999999999L);
        forms.set(1, 999999999999999999L);
        CHECK.due("18 nines", forms.stored(1), 999999999999999999L);
        for (int number : OUTSIDE) {
            CHECK.due("stored(" + number + ")", forms.stored(number), 0);
        }
    }

    private static void setTo(int digits, long v, long want) {
        ArithmeticForms forms = new ArithmeticForms(1);
        forms.receiver(digits, 0, 7);
        CHECK.due("set(1, " + v + ")", forms.set(1, v), 1);
        CHECK.due(v + " in " + digits + " digits", forms.stored(1), want);
    }

    private static void setLowestDigits() {
        CHECK.sentence(7, "A receiver holds v, its lowest digits with the sign: 1");
        setTo(1, 9, 9);
        setTo(1, 10, 0);
        setTo(1, -10, 0);
        setTo(1, -19, -9);
        setTo(3, 999, 999);
        setTo(3, -1001, -1);
        setTo(18, 999999999999999999L, 999999999999999999L);
        setTo(18, -1000000000000000000L, 0);
        setTo(18, Long.MAX_VALUE, 223372036854775807L);
        setTo(18, Long.MIN_VALUE, -223372036854775808L);
        setTo(1, Long.MIN_VALUE, -8);
    }

    private static void setNone() {
        CHECK.sentence(7, "-2.");
        ArithmeticForms forms = new ArithmeticForms(31);
        CHECK.due("set(1, 5) before there is one", forms.set(1, 5), -2);
        forms.receiver(3, 0, 0);
        CHECK.due("stored(1)", forms.stored(1), 0);
        forms.set(1, 42);
        for (int number : OUTSIDE) {
            CHECK.due("set(" + number + ", 5)", forms.set(number, 5), -2);
        }
        CHECK.due("stored(1)", forms.stored(1), 42);
        forms.receiver(3, 0, 0);
        CHECK.due("stored(2)", forms.stored(2), 0);
    }

    private static void latestError() {
        CHECK.sentence(8, "Whether a receiver had a size error by the latest statement");
        ArithmeticForms forms = afterAStatement();
        CHECK.due("error(1)", forms.error(1), false);
        CHECK.due("error(2)", forms.error(2), true);
        forms.set(2, 5);
        forms.value(1, 0);
        forms.receiver(1, 0, 0);
        CHECK.due("error(2) after calls that are no statements", forms.error(2), true);
        CHECK.due("error(3) of one that is newer than the statement", forms.error(3), false);
        forms.run(0, forms.value(10, 0), false);
        CHECK.due("error(2) after the next statement", forms.error(2), false);
        CHECK.due("error(3), though its digits were stored", forms.error(3), true);
        forms.run(1, 1, false);
        CHECK.due("error(3) after the next statement", forms.error(3), false);
    }

    private static void errorOfNone() {
        CHECK.sentence(8, "false when there is none such.");
        ArithmeticForms forms = new ArithmeticForms(31);
        CHECK.due("error(1) before there is one", forms.error(1), false);
        forms.receiver(1, 0, 0);
        forms.run(0, Edge.raisedOne(forms), true);
        CHECK.due("error(1)", forms.error(1), true);
        for (int number : OUTSIDE) {
            CHECK.due("error(" + number + ")", forms.error(number), false);
        }
    }

    private static void latestRest() {
        CHECK.sentence(9, "A receiver's rest by the latest statement of kind 4");
        ArithmeticForms forms = afterAStatement();
        CHECK.due("rest(1)", forms.rest(1), 3);
        for (int kind = 0; kind <= 3; kind++) {
            forms.run(kind, 1, false);
            CHECK.due("rest(1) after kind " + kind, forms.rest(1), 3);
        }
        forms.run(0, Edge.raisedTwo(forms), true);
        forms.set(1, 12);
        CHECK.due("rest(1) after a size error of another kind", forms.rest(1), 3);
        forms.run(4, 1, true);
        CHECK.due("rest(1) of 12 / 7", forms.rest(1), 5);
        forms.set(1, 14);
        forms.run(4, 1, true);
        CHECK.due("rest(1) of 14 / 7", forms.rest(1), 0);
    }

    private static void restAtFirst() {
        CHECK.sentence(9, "0 at first, or when there is none such.");
        ArithmeticForms forms = new ArithmeticForms(31);
        CHECK.due("rest(1) before there is one", forms.rest(1), 0);
        forms.receiver(2, 0, 0);
        CHECK.due("rest(1) at first", forms.rest(1), 0);
        forms.set(1, 38);
        forms.run(4, forms.value(7, 0), true);
        CHECK.due("rest(1)", forms.rest(1), 3);
        for (int number : OUTSIDE) {
            CHECK.due("rest(" + number + ")", forms.rest(number), 0);
        }
        forms.receiver(2, 0, 0);
        CHECK.due("rest(2) of one that is newer than the statement", forms.rest(2), 0);
    }

    private static void noSuchSide() {
        CHECK.sentence(10, "(NONE when there is none such; so when side is below 0, or there is no such node)");
        ArithmeticForms forms = new ArithmeticForms(31);
        CHECK.due("exact(1, 0) before there is one", forms.exact(1, 0), -1);
        forms.value(-1203, 2);
        CHECK.due("exact(1, 6), its last digit", forms.exact(1, 6), 3);
        CHECK.due("exact(1, 7)", forms.exact(1, 7), -1);
        for (int side : new int[] {8, 33, 34, 35, 100, Integer.MAX_VALUE, -1, -3, Integer.MIN_VALUE}) {
            CHECK.due("exact(1, " + side + ")", forms.exact(1, side), -1);
        }
        for (int number : OUTSIDE) {
            for (int side = -1; side <= 3; side++) {
                CHECK.due("exact(" + number + ", " + side + ")", forms.exact(number, side), -1);
            }
        }
        int third = forms.node(3, forms.value(1, 0), forms.value(3, 0));
        CHECK.due("exact(third, 33), digit 31 of 31", forms.exact(third, 33), 3);
        CHECK.due("exact(third, 34)", forms.exact(third, 34), -1);
        CHECK.due("the first digit of 0", forms.exact(forms.value(0, 0), 3), -1);
        int raised = Edge.raisedTwo(forms);
        CHECK.due("exact(raised, -1) throws", Check.throwsArithmetic(forms, raised, -1), false);
        CHECK.due("exact(after the last, 0) throws", Check.throwsArithmetic(forms, raised + 1, 0), false);
    }

    private static void thrown() {
        CHECK.sentence(10, "ArithmeticException when it is raised.");
        ArithmeticForms forms = new ArithmeticForms(31);
        int one = Edge.raisedOne(forms);
        int two = Edge.raisedTwo(forms);
        for (int side : new int[] {0, 1, 2, 3, 33, 34, Integer.MAX_VALUE}) {
            CHECK.due("exact(1 raised, " + side + ") throws", Check.throwsArithmetic(forms, one, side), true);
            CHECK.due("exact(2 raised, " + side + ") throws", Check.throwsArithmetic(forms, two, side), true);
        }
        CHECK.due("exact(0, 0) throws", Check.throwsArithmetic(forms, 1, 0), false);
        int after = forms.value(5, 0);
        CHECK.due("a value after what is raised", forms.exact(after, 3), 5);
        CHECK.due("raises of what was looked at", forms.raises(one), 1);
    }

    private static void raises() {
        CHECK.sentence(11, "What a node raises: 0, 1, 2; -2.");
        ArithmeticForms forms = new ArithmeticForms(31);
        CHECK.due("raises(1) before there is one", forms.raises(1), -2);
        CHECK.due("of 0", forms.raises(forms.value(0, 0)), 0);
        for (int number : OUTSIDE) {
            CHECK.due("raises(" + number + ")", forms.raises(number), -2);
        }
        CHECK.due("of 0 ^ 0", forms.raises(Edge.raisedOne(forms)), 1);
        CHECK.due("of 1 / 0", forms.raises(Edge.raisedTwo(forms)), 2);
        CHECK.due("of the greatest", forms.raises(Edge.greatest(forms)), 0);
        int low = Edge.ten(forms, -99);
        CHECK.due("of what is too small", forms.raises(forms.node(2, low, low)), 0);
        forms.receiver(1, 0, 7);
        forms.run(0, low, true);
        CHECK.due("of a node whose rounding is raised", forms.raises(low), 0);
    }

    private static void raised() {
        CHECK.sentence(12, "What the latest statement raised latest (1, 2, 3); 0 for nothing.");
        ArithmeticForms forms = new ArithmeticForms(31);
        CHECK.due("before any statement", forms.raised(), 0);
        int two = Edge.raisedTwo(forms);
        int one = Edge.raisedOne(forms);
        CHECK.due("after nodes that raise", forms.raised(), 0);
        forms.run(0, forms.value(1, 0), true);
        CHECK.due("by a statement with no receivers", forms.raised(), 0);
        forms.receiver(1, 0, 0);
        forms.receiver(9, 0, 7);
        forms.receiver(9, 9, 0);
        int small = forms.value(1, 1);
        forms.run(0, small, true);
        CHECK.due("nothing, 3, nothing", forms.raised(), 3);
        forms.run(0, forms.value(105, 1), true);
        CHECK.due("1 for digits, 3, 1 for digits", forms.raised(), 1);
        forms.run(0, two, true);
        CHECK.due("2", forms.raised(), 2);
        forms.run(0, one, true);
        CHECK.due("1", forms.raised(), 1);
        forms.run(4, forms.value(0, 0), true);
        CHECK.due("2 by a receiver that is divided", forms.raised(), 2);
        forms.set(1, 5);
        forms.stored(1);
        CHECK.due("it stays till the next statement", forms.raised(), 2);
        forms.run(0, forms.value(0, 0), true);
        CHECK.due("0 by a statement that raises nothing", forms.raised(), 0);
        forms.receiver(9, 1, 7);
        forms.run(0, forms.value(1001, 2), false);
        CHECK.due("1, 3, 1 for digits, 3", forms.raised(), 3);
        forms.run(0, forms.value(10, 0), false);
        CHECK.due("1 for digits without the phrase, nothing, 1, nothing", forms.raised(), 1);
    }

    public static void main(String[] args) {
        uses();
        precisions();
        nothingYet();
        scales();
        valuesFull();
        operations();
        noSuchNodes();
        nodesFull();
        receiversFull();
        howMany();
        kinds();
        noSuchNode();
        storedOfNone();
        setLowestDigits();
        setNone();
        latestError();
        errorOfNone();
        latestRest();
        restAtFirst();
        noSuchSide();
        thrown();
        raises();
        raised();
        CHECK.end();
    }
}
