import java.math.BigDecimal;
import java.math.BigInteger;
import java.math.MathContext;
import java.math.RoundingMode;
import java.util.ArrayList;
import java.util.List;

/** The document told once more with BigDecimal, to be compared with the class call by call. */
final class Model {
    private static final BigDecimal HIGH = new BigDecimal("1e99");
    private static final BigDecimal LOW = new BigDecimal("1e-99");
    private static final BigDecimal MOST_POWER = new BigDecimal(99);
    private static final RoundingMode[] ROUNDINGS = {
        RoundingMode.DOWN, RoundingMode.UP, RoundingMode.HALF_UP, RoundingMode.HALF_EVEN, RoundingMode.HALF_DOWN,
        RoundingMode.CEILING, RoundingMode.FLOOR
    };

    /** A value, or what is raised in its stead. */
    record Result(BigDecimal value, int code) {
    }

    private static final class Target {
        int digits;
        int scale;
        int rounding;
        BigInteger held = BigInteger.ZERO;
        long rest;
        boolean error;
    }

    private final MathContext cut;
    private final List<Result> nodes = new ArrayList<>();
    private final List<Target> targets = new ArrayList<>();
    private int raised;

    Model(int form) {
        cut = new MathContext(form < 1 ? 1 : form > 31 ? 31 : form, RoundingMode.DOWN);
    }

    int nodeCount() {
        return nodes.size();
    }

    int receiverCount() {
        return targets.size();
    }

    private static Result raise(int code) {
        return new Result(BigDecimal.ZERO, code);
    }

    private Result bounded(BigDecimal exact) {
        BigDecimal size = exact.abs();
        if (size.compareTo(HIGH) >= 0) {
            return raise(1);
        }
        if (size.compareTo(LOW) < 0) {
            return new Result(BigDecimal.ZERO, 0);
        }
        return new Result(exact.round(cut).stripTrailingZeros(), 0);
    }

    private Result divided(BigDecimal a, BigDecimal b) {
        return b.signum() == 0 ? raise(2) : bounded(a.divide(b, cut));
    }

    private Result powered(BigDecimal a, BigDecimal b) {
        boolean whole = b.remainder(BigDecimal.ONE).signum() == 0;
        if (!whole || b.abs().compareTo(MOST_POWER) > 0) {
            return raise(1);
        }
        int times = b.intValueExact();
        if (a.signum() == 0 && times <= 0) {
            return raise(times == 0 ? 1 : 2);
        }
        Result product = new Result(BigDecimal.ONE, 0);
        for (int i = 0; i < Math.abs(times) && product.code() == 0; i++) {
            product = bounded(product.value().multiply(a));
        }
        return times >= 0 || product.code() != 0 ? product : divided(BigDecimal.ONE, product.value());
    }

    private Result operation(int op, Result a, Result b) {
        if (a.code() != 0) {
            return a;
        }
        if (op == 5) {
            return new Result(a.value().negate(), 0);
        }
        if (b.code() != 0) {
            return b;
        }
        return switch (op) {
            case 0 -> bounded(a.value().add(b.value()));
            case 1 -> bounded(a.value().subtract(b.value()));
            case 2 -> bounded(a.value().multiply(b.value()));
            case 3 -> divided(a.value(), b.value());
            default -> powered(a.value(), b.value());
        };
    }

    private boolean isNode(int number) {
        return number >= 1 && number <= nodes.size();
    }

    private Target target(int number) {
        return number >= 1 && number <= targets.size() ? targets.get(number - 1) : null;
    }

    int value(long v, int scale) {
        if (scale < 0 || scale > 18) {
            return -4;
        }
        if (nodes.size() == 100) {
            return -1;
        }
        nodes.add(bounded(BigDecimal.valueOf(v, scale)));
        return nodes.size();
    }

    int node(int op, int a, int b) {
        if (op < 0 || op > 5) {
            return -4;
        }
        if (!isNode(a) || op != 5 && !isNode(b)) {
            return -2;
        }
        if (nodes.size() == 100) {
            return -1;
        }
        nodes.add(operation(op, nodes.get(a - 1), op == 5 ? null : nodes.get(b - 1)));
        return nodes.size();
    }

    int receiver(int digits, int scale, int rounding) {
        if (digits < 1 || digits > 18 || scale < 0 || scale > digits || rounding < 0 || rounding > 7) {
            return -4;
        }
        if (targets.size() == 20) {
            return -1;
        }
        Target made = new Target();
        made.digits = digits;
        made.scale = scale;
        made.rounding = rounding;
        targets.add(made);
        return targets.size();
    }

    int run(int kind, int root, boolean phrase) {
        if (kind < 0 || kind > 4) {
            return -4;
        }
        if (!isNode(root)) {
            return -2;
        }
        raised = 0;
        int good = 0;
        for (Target target : targets) {
            give(target, kind, nodes.get(root - 1), phrase);
            good += target.error ? 0 : 1;
        }
        return good;
    }

    private void give(Target target, int kind, Result x, boolean phrase) {
        BigDecimal was = new BigDecimal(target.held, target.scale);
        Result result = kind == 0 ? x : operation(kind - 1, new Result(was, 0), x);
        int code = result.code();
        BigInteger number = BigInteger.ZERO;
        if (code == 0 && target.rounding == 7 && result.value().stripTrailingZeros().scale() > target.scale) {
            code = 3;
        }
        if (code == 0) {
            RoundingMode mode = target.rounding == 7 ? RoundingMode.UNNECESSARY : ROUNDINGS[target.rounding];
            number = result.value().setScale(target.scale, mode).unscaledValue();
        }
        BigInteger limit = BigInteger.TEN.pow(target.digits);
        boolean tooLong = number.abs().compareTo(limit) >= 0;
        target.error = code != 0 || tooLong;
        if (target.error) {
            raised = code != 0 ? code : 1;
        }
        if (code == 0 && (!tooLong || !phrase)) {
            target.held = number.remainder(limit);
        }
        if (kind == 4) {
            target.rest = target.error ? 0 : restOf(was, x.value(), result.value(), target.scale);
        }
    }

    private long restOf(BigDecimal was, BigDecimal x, BigDecimal quotient, int scale) {
        BigDecimal product = bounded(x.multiply(quotient.setScale(scale, RoundingMode.DOWN))).value();
        BigDecimal rest = bounded(was.subtract(product)).value();
        BigInteger number = rest.setScale(scale, RoundingMode.DOWN).unscaledValue();
        return number.remainder(BigInteger.TEN.pow(18)).longValueExact();
    }

    long stored(int receiver) {
        Target target = target(receiver);
        return target == null ? 0 : target.held.longValueExact();
    }

    int set(int receiver, long v) {
        Target target = target(receiver);
        if (target == null) {
            return -2;
        }
        target.held = BigInteger.valueOf(v).remainder(BigInteger.TEN.pow(target.digits));
        return 1;
    }

    boolean error(int receiver) {
        Target target = target(receiver);
        return target != null && target.error;
    }

    long rest(int receiver) {
        Target target = target(receiver);
        return target == null ? 0 : target.rest;
    }

    /** Null stands for the ArithmeticException. */
    Long exact(int node, int side) {
        if (!isNode(node) || side < 0) {
            return -1L;
        }
        Result result = nodes.get(node - 1);
        if (result.code() != 0) {
            return null;
        }
        BigDecimal value = result.value();
        boolean zero = value.signum() == 0;
        String digits = zero ? "" : value.stripTrailingZeros().unscaledValue().abs().toString();
        if (side == 0) {
            return (long) value.signum();
        }
        if (side == 1) {
            return (long) digits.length();
        }
        if (side == 2) {
            return zero ? 0L : -value.stripTrailingZeros().scale();
        }
        return side - 3 < digits.length() ? (long) (digits.charAt(side - 3) - '0') : -1L;
    }

    int raises(int node) {
        return isNode(node) ? nodes.get(node - 1).code() : -2;
    }

    int raised() {
        return raised;
    }
}
