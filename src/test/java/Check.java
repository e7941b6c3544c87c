import java.math.BigDecimal;
import java.math.BigInteger;

/** Counts the answers that are not as due; what every test here ends with. */
final class Check {
    private final String test;
    /** Stands before each answer that is not as due: the test, or the sentence that it holds the class to. */
    private String name;
    private int sentences;
    private int wrong;

    Check(String test) {
        this.test = test;
        name = test;
    }

    /** From here on the answers hold the class to these words of the document, by that promise. */
    void sentence(int promise, String words) {
        name = "promise " + promise + ", \"" + words + "\"";
        sentences++;
        due("the document says so (1)", Document.says(promise, words), true);
    }

    void due(String call, long got, long want) {
        if (got != want) {
            wrong++;
            System.out.println(name + ": " + call + " answered " + got + ", due is " + want);
        }
    }

    void due(String call, boolean got, boolean want) {
        due(call, got ? 1L : 0L, want ? 1L : 0L);
    }

    /** A node's value, told as a text that BigDecimal reads. */
    void dueValue(String call, ArithmeticForms forms, int node, String want) {
        BigDecimal got = valueOf(forms, node);
        if (got == null || got.compareTo(new BigDecimal(want)) != 0) {
            wrong++;
            System.out.println(name + ": " + call + " is " + got + ", due is " + want);
        }
    }

    void dueRaised(String call, ArithmeticForms forms, int node, int code) {
        due(call + " raises", forms.raises(node), code);
        due(call + " throws", throwsArithmetic(forms, node, 0), true);
    }

    /** Null when the value is raised. */
    static BigDecimal valueOf(ArithmeticForms forms, int node) {
        if (forms.raises(node) != 0) {
            return null;
        }
        StringBuilder digits = new StringBuilder("0");
        for (int i = 0; i < forms.exact(node, 1); i++) {
            digits.append(forms.exact(node, 3 + i));
        }
        BigInteger coefficient = new BigInteger(digits.toString());
        BigDecimal size = new BigDecimal(coefficient, (int) -forms.exact(node, 2));
        return forms.exact(node, 0) < 0 ? size.negate() : size;
    }

    static boolean throwsArithmetic(ArithmeticForms forms, int node, int side) {
        try {
            forms.exact(node, side);
            return false;
        } catch (ArithmeticException e) {
            return true;
        }
    }

    /** A number's sign, its digits from the highest on, its exponent; and that there is no digit more. */
    void dueSides(String call, ArithmeticForms forms, int node, int sign, String digits, int exponent) {
        due(call + " raises", forms.raises(node), 0);
        if (forms.raises(node) != 0) {
            return;
        }
        due(call + ": its sign", forms.exact(node, 0), sign);
        due(call + ": how many digits", forms.exact(node, 1), digits.length());
        due(call + ": its exponent", forms.exact(node, 2), exponent);
        for (int i = 0; i < digits.length(); i++) {
            due(call + ": digit " + i, forms.exact(node, 3 + i), digits.charAt(i) - '0');
        }
        due(call + ": a digit too many", forms.exact(node, 3 + digits.length()), ArithmeticForms.NONE);
    }

    void end() {
        String what = sentences == 0 ? test : test + ", " + sentences + " sentences";
        System.out.println(wrong == 0 ? what + ": all answers are as due" : what + ": " + wrong + " answers are not as due");
        if (wrong != 0) {
            System.exit(1);
        }
    }
}
