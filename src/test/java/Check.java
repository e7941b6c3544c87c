import java.math.BigDecimal;
import java.math.BigInteger;

/** Counts the answers that are not as due; what every test here ends with. */
final class Check {
    private final String name;
    private int wrong;

    Check(String name) {
        this.name = name;
    }

    void due(String call, long got, long want) {
        if (got != want) {
            wrong++;
            System.out.println(name + ": " + call + " answered " + got + ", due is " + want);
        }
    }

    void due(String call, boolean got, boolean want) {
        due(call, got ? 1L : 0L, want ? 1L : 0L);
    }

    /** A node's value, told as a text that BigDecimal reads. */
    void dueValue(String call, ArithmeticForms forms, int node, String want) {
        BigDecimal got = valueOf(forms, node);
        if (got == null || got.compareTo(new BigDecimal(want)) != 0) {
            wrong++;
            System.out.println(name + ": " + call + " is " + got + ", due is " + want);
        }
    }

    void dueRaised(String call, ArithmeticForms forms, int node, int code) {
        due(call + " raises", forms.raises(node), code);
        due(call + " throws", throwsArithmetic(forms, node, 0), true);
    }

    /** Null when the value is raised. */
    static BigDecimal valueOf(ArithmeticForms forms, int node) {
        if (forms.raises(node) != 0) {
            return null;
        }
        StringBuilder digits = new StringBuilder("0");
        for (int i = 0; i < forms.exact(node, 1); i++) {
            digits.append(forms.exact(node, 3 + i));
        }
        BigInteger coefficient = new BigInteger(digits.toString());
        BigDecimal size = new BigDecimal(coefficient, (int) -forms.exact(node, 2));
        return forms.exact(node, 0) < 0 ? size.negate() : size;
    }

    static boolean throwsArithmetic(ArithmeticForms forms, int node, int side) {
        try {
            forms.exact(node, side);
            return false;
        } catch (ArithmeticException e) {
            return true;
        }
    }

    void end() {
        System.out.println(wrong == 0 ? name + ": all answers are as due" : name + ": " + wrong + " answers are not as due");
        if (wrong != 0) {
            System.exit(1);
        }
    }
}
