/** Makes the nodes at the edges of what a decimal can be. */
final class Edge {
    private Edge() {
    }

    /** 10^power for -99 .. 98; below 0 as a power of 0.1, for 10 ^ -99 would need 10^99, which is raised. */
    static int ten(ArithmeticForms forms, int power) {
        int base = power < 0 ? forms.value(1, 1) : forms.value(10, 0);
        return forms.node(4, base, forms.value(Math.abs(power), 0));
    }

    /** v * 10^-scale * 10^power. */
    static int times(ArithmeticForms forms, long v, int scale, int power) {
        return forms.node(2, forms.value(v, scale), ten(forms, power));
    }

    /** The greatest decimal of 31 digits: 31 nines and 68 zeros. */
    static int greatest(ArithmeticForms forms) {
        int cut = forms.node(1, ten(forms, 98), ten(forms, 0));
        return forms.node(2, cut, forms.value(10, 0));
    }

    /** A node that raises 1: 0 ^ 0. */
    static int raisedOne(ArithmeticForms forms) {
        int zero = forms.value(0, 0);
        return forms.node(4, zero, zero);
    }

    /** A node that raises 2: 1 / 0. */
    static int raisedTwo(ArithmeticForms forms) {
        return forms.node(3, forms.value(1, 0), forms.value(0, 0));
    }
}
