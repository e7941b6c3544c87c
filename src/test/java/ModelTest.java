/** Long runs of calls, the same ones each time, on the class and on the model; every answer and the whole state. */
public final class ModelTest {
    private static final int CALLS = 200;
    private static final Check CHECK = new Check("the model");

    private final int run;
    private final ArithmeticForms forms;
    private final Model model;
    private long state;

    private ModelTest(int run) {
        this.run = run;
        state = run * 0x9E3779B97F4A7C15L + 1;
        int form = below(4) == 0 ? below(36) - 2 : 1 + below(31);
        forms = new ArithmeticForms(form);
        model = new Model(form);
    }

    private long next() {
        state = state * 6364136223846793005L + 1442695040888963407L;
        long mixed = state ^ state >>> 29;
        mixed *= 0xBF58476D1CE4E5B9L;
        return mixed ^ mixed >>> 32;
    }

    private int below(int bound) {
        return (int) Long.remainderUnsigned(next(), bound);
    }

    private static long ten(int power) {
        long result = 1;
        for (int i = 0; i < power; i++) {
            result *= 10;
        }
        return result;
    }

    private long number() {
        long sign = below(2) == 0 ? 1 : -1;
        switch (below(9)) {
            case 0:
                return below(20) == 0 ? Long.MIN_VALUE : next();
            case 1:
                return sign * ten(below(19));
            case 2:
                return sign * (ten(below(19)) - 1);
            case 3:
                return sign * 5 * ten(below(18));
            case 4:
                return sign * (ten(1 + below(18)) / 2 + below(3) - 1);
            case 5:
                return sign * below(100);
            case 6:
                return sign * below(4);
            default:
                return next() % ten(1 + below(18));
        }
    }

    private int anyNode() {
        return below(60) == 0 ? below(130) - 10 : 1 + below(Math.max(1, model.nodeCount()));
    }

    private int anyReceiver() {
        return below(10) == 0 ? below(30) - 5 : 1 + below(Math.max(1, model.receiverCount()));
    }

    private void due(String call, long got, long want) {
        CHECK.due("run " + run + ": " + call, got, want);
    }

    private void makeValue() {
        long v = number();
        int scale = below(40) == 0 ? below(30) - 5 : below(19);
        due("value(" + v + ", " + scale + ")", forms.value(v, scale), model.value(v, scale));
        compareNode(model.nodeCount());
    }

    private void makeNode() {
        int op = below(60) == 0 ? below(10) - 2 : below(6);
        int a = anyNode();
        int b = anyNode();
        due("node(" + op + ", " + a + ", " + b + ")", forms.node(op, a, b), model.node(op, a, b));
        compareNode(model.nodeCount());
    }

    private void makeReceiver() {
        int digits = below(20) == 0 ? below(25) - 3 : 1 + below(18);
        int scale = below(20) == 0 ? below(25) - 3 : below(Math.max(1, digits + 1));
        int rounding = below(20) == 0 ? below(12) - 2 : below(8);
        due("receiver(" + digits + ", " + scale + ", " + rounding + ")",
                forms.receiver(digits, scale, rounding), model.receiver(digits, scale, rounding));
    }

    private void makeStatement() {
        int kind = below(40) == 0 ? below(9) - 2 : below(5);
        int root = anyNode();
        boolean phrase = below(2) == 0;
        due("run(" + kind + ", " + root + ", " + phrase + ")", forms.run(kind, root, phrase), model.run(kind, root, phrase));
        compareReceivers();
    }

    private void setReceiver() {
        int receiver = anyReceiver();
        long v = number();
        due("set(" + receiver + ", " + v + ")", forms.set(receiver, v), model.set(receiver, v));
        compareReceivers();
    }

    private void compareNode(int node) {
        due("raises(" + node + ")", forms.raises(node), model.raises(node));
        for (int side = -1; side < 36; side++) {
            Long want = model.exact(node, side);
            boolean thrown = Check.throwsArithmetic(forms, node, side);
            due("exact(" + node + ", " + side + ") throws", thrown ? 1 : 0, want == null ? 1 : 0);
            if (!thrown && want != null) {
                due("exact(" + node + ", " + side + ")", forms.exact(node, side), want);
            }
        }
    }

    private void compareReceivers() {
        due("raised()", forms.raised(), model.raised());
        for (int i = 0; i <= model.receiverCount() + 1; i++) {
            due("stored(" + i + ")", forms.stored(i), model.stored(i));
            due("rest(" + i + ")", forms.rest(i), model.rest(i));
            due("error(" + i + ")", forms.error(i) ? 1 : 0, model.error(i) ? 1 : 0);
        }
    }

    private void play() {
        int statements = 1 + below(5);
        for (int i = 0; i < CALLS; i++) {
            switch (below(7 + statements)) {
                case 0:
                case 1:
                    makeValue();
                    break;
                case 2:
                case 3:
                case 4:
                    makeNode();
                    break;
                case 5:
                    makeReceiver();
                    break;
                case 6:
                    setReceiver();
                    break;
                default:
                    makeStatement();
                    break;
            }
        }
        for (int node = 0; node <= model.nodeCount() + 1; node++) {
            compareNode(node);
        }
    }

    public static void main(String[] args) {
        int runs = args.length > 0 ? Integer.parseInt(args[0]) : 1500;
        int first = args.length > 1 ? Integer.parseInt(args[1]) : 1;
        for (int run = first; run < first + runs; run++) {
            new ModelTest(run).play();
        }
        CHECK.end();
    }
}
