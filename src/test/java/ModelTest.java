/**
 * Long runs of calls, the same ones each time, on the class and on the model. An object is used for 512 calls and no
 * more, as nothing is promised of later ones: so each run looks at some of the state only, and there are many runs.
 */
public final class ModelTest {
    private static final int MOST_CALLS = 512;
    private static final int SIDES = 37;
    private static final Check CHECK = new Check("the model");

    private final int run;
    private final ArithmeticForms forms;
    private final Model model;
    /** How many looks at the state follow a call that changes it, at most. */
    private final int looks;
    private int calls;
    private long state;

    private ModelTest(int run) {
        this.run = run;
        state = run * 0x9E3779B97F4A7C15L + 1;
        int form = below(4) == 0 ? below(36) - 2 : 1 + below(31);
        forms = new ArithmeticForms(form);
        model = new Model(form);
        looks = below(4) == 0 ? SIDES : below(8);
    }

    /** Whether the object may be called once more; counts that call. */
    private boolean mayCall() {
        if (calls == MOST_CALLS) {
            return false;
        }
        calls++;
        return true;
    }

    private long next() {
        state = state * 6364136223846793005L + 1442695040888963407L;
        long mixed = state ^ state >>> 29;
        mixed *= 0xBF58476D1CE4E5B9L;
        return mixed ^ mixed >>> 32;
    }

    private int below(int bound) {
        return (int) Long.remainderUnsigned(next(), bound);
    }

    private static long ten(int power) {
        long result = 1;
        for (int i = 0; i < power; i++) {
            result *= 10;
        }
        return result;
    }

    private long number() {
        long sign = below(2) == 0 ? 1 : -1;
        switch (below(9)) {
            case 0:
                return below(20) == 0 ? Long.MIN_VALUE : next();
            case 1:
                return sign * ten(below(19));
            case 2:
                return sign * (ten(below(19)) - 1);
            case 3:
                return sign * 5 * ten(below(18));
            case 4:
                return sign * (ten(1 + below(18)) / 2 + below(3) - 1);
            case 5:
                return sign * below(100);
            case 6:
                return sign * below(4);
            default:
                return next() % ten(1 + below(18));
        }
    }

    private int anyNode() {
        return below(60) == 0 ? below(130) - 10 : 1 + below(Math.max(1, model.nodeCount()));
    }

    private int anyReceiver() {
        return below(10) == 0 ? below(30) - 5 : 1 + below(Math.max(1, model.receiverCount()));
    }

    private void due(String call, long got, long want) {
        CHECK.due("run " + run + ": " + call, got, want);
    }

    private void makeValue() {
        long v = number();
        int scale = below(40) == 0 ? below(30) - 5 : below(19);
        due("value(" + v + ", " + scale + ")", forms.value(v, scale), model.value(v, scale));
        lookAtNode(model.nodeCount());
    }

    private void makeNode() {
        int op = below(60) == 0 ? below(10) - 2 : below(6);
        int a = anyNode();
        int b = anyNode();
        due("node(" + op + ", " + a + ", " + b + ")", forms.node(op, a, b), model.node(op, a, b));
        lookAtNode(below(10) == 0 ? anyNode() : model.nodeCount());
    }

    /** A decimal close to where results are raised or fall to 0, which values and single operations hardly reach. */
    private void makeFar() {
        int scale = below(2);
        int times = 75 + below(25);
        int near = anyNode();
        due("value(1 or 10)", forms.value(scale == 0 ? 10 : 1, scale), model.value(scale == 0 ? 10 : 1, scale));
        if (mayCall()) {
            due("value(" + times + ", 0)", forms.value(times, 0), model.value(times, 0));
        }
        int last = model.nodeCount();
        if (mayCall()) {
            due("node(4, ..) far", forms.node(4, last - 1, last), model.node(4, last - 1, last));
        }
        if (mayCall()) {
            due("node(2, ..) far", forms.node(2, last + 1, near), model.node(2, last + 1, near));
        }
        lookAtNode(model.nodeCount());
    }

    private void makeReceiver() {
        int digits = below(20) == 0 ? below(25) - 3 : 1 + below(18);
        int scale = below(20) == 0 ? below(25) - 3 : below(Math.max(1, digits + 1));
        int rounding = below(20) == 0 ? below(12) - 2 : below(8);
        due("receiver(" + digits + ", " + scale + ", " + rounding + ")",
                forms.receiver(digits, scale, rounding), model.receiver(digits, scale, rounding));
        lookAtReceivers();
    }

    private void makeStatement() {
        int kind = below(40) == 0 ? below(9) - 2 : below(5);
        int root = anyNode();
        boolean phrase = below(2) == 0;
        due("run(" + kind + ", " + root + ", " + phrase + ")", forms.run(kind, root, phrase), model.run(kind, root, phrase));
        lookAtReceivers();
    }

    private void setReceiver() {
        int receiver = anyReceiver();
        long v = number();
        due("set(" + receiver + ", " + v + ")", forms.set(receiver, v), model.set(receiver, v));
        lookAtReceivers();
    }

    private void lookAtNode(int node) {
        if (mayCall()) {
            due("raises(" + node + ")", forms.raises(node), model.raises(node));
        }
        for (int i = 0; i < looks && mayCall(); i++) {
            lookAtSide(node, looks == SIDES ? i - 1 : below(SIDES) - 1);
        }
    }

    private void lookAtSide(int node, int side) {
        Long want = model.exact(node, side);
        String call = "exact(" + node + ", " + side + ")";
        try {
            long got = forms.exact(node, side);
            due(call + " throws", 0, want == null ? 1 : 0);
            due(call, got, want == null ? got : want);
        } catch (ArithmeticException e) {
            due(call + " throws", 1, want == null ? 1 : 0);
        }
    }

    private void lookAtReceivers() {
        if (mayCall()) {
            due("raised()", forms.raised(), model.raised());
        }
        for (int i = 0; i < looks && mayCall(); i++) {
            lookAtReceiver(anyReceiver());
        }
    }

    private void lookAtReceiver(int receiver) {
        switch (below(4)) {
            case 0:
                due("error(" + receiver + ")", forms.error(receiver) ? 1 : 0, model.error(receiver) ? 1 : 0);
                break;
            case 1:
                due("rest(" + receiver + ")", forms.rest(receiver), model.rest(receiver));
                break;
            default:
                due("stored(" + receiver + ")", forms.stored(receiver), model.stored(receiver));
                break;
        }
    }

    private void play() {
        int statements = 1 + below(5);
        while (mayCall()) {
            switch (below(8 + statements)) {
                case 0:
                case 1:
                    makeValue();
                    break;
                case 2:
                case 3:
                case 4:
                    makeNode();
                    break;
                case 5:
                    makeReceiver();
                    break;
                case 6:
                    setReceiver();
                    break;
                case 7:
                    makeFar();
                    break;
                default:
                    makeStatement();
                    break;
            }
        }
    }

    public static void main(String[] args) {
        int runs = args.length > 0 ? Integer.parseInt(args[0]) : 12000;
        int first = args.length > 1 ? Integer.parseInt(args[1]) : 1;
        for (int run = first; run < first + runs; run++) {
            new ModelTest(run).play();
        }
        CHECK.end();
    }
}
