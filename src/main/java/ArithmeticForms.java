import java.util.Arrays;

/** Arithmetic statements of a business language: values, operations of them, receivers and what they are given. */
public final class ArithmeticForms {

    public static final int NONE = -1;

    private static final int NO_SUCH = -2;
    private static final int WRONG = -4;

    private static final int MOST_PRECISION = 31;
    private static final int MOST_NODES = 100;
    private static final int MOST_RECEIVERS = 20;
    private static final int MOST_DIGITS = 18;

    private static final int ADD = 0;
    private static final int SUBTRACT = 1;
    private static final int MULTIPLY = 2;
    private static final int POWER = 4;
    private static final int NEGATE = 5;

    private static final int KIND_GIVE = 0;
    private static final int KIND_DIVIDE = 4;

    private static final int SIZE = 1;
    private static final int BY_ZERO = 2;
    private static final int INEXACT = 3;

    /** Results of ten to this power or more are raised, those below ten to minus this power are 0. */
    private static final int REACH = 99;

    private static final long[] TENS = {
        1L, 10L, 100L, 1000L, 10000L, 100000L, 1000000L, 10000000L, 100000000L, 1000000000L,
        10000000000L, 100000000000L, 1000000000000L, 10000000000000L, 100000000000000L,
        1000000000000000L, 10000000000000000L, 100000000000000000L, 1000000000000000000L
    };

    private final Calculator calculator;
    private final Decimal[] nodes = new Decimal[MOST_NODES];
    private int nodeCount;
    private final Receiver[] receivers = new Receiver[MOST_RECEIVERS];
    private int receiverCount;
    private int latestRaised;

    /** What a receiver held before a statement, what it is to be given, and a place for its rest: used again by each. */
    private final Decimal before = new Decimal();
    private final Decimal given = new Decimal();
    private final Decimal over = new Decimal();

    public ArithmeticForms(int form) {
        calculator = new Calculator(Math.max(1, Math.min(MOST_PRECISION, form)));
    }

    public int value(long v, int scale) {
        if (scale < 0 || scale > MOST_DIGITS) {
            return WRONG;
        }
        if (nodeCount >= MOST_NODES) {
            return NONE;
        }
        Decimal made = new Decimal();
        made.load(v, scale);
        made.cut(calculator.precision);
        return keepNode(made);
    }

    public int node(int op, int a, int b) {
        if (op < ADD || op > NEGATE) {
            return WRONG;
        }
        Decimal left = nodeAt(a);
        Decimal right = op == NEGATE ? left : nodeAt(b);
        if (left == null || right == null) {
            return NO_SUCH;
        }
        if (nodeCount >= MOST_NODES) {
            return NONE;
        }
        Decimal made = new Decimal();
        operate(op, made, left, right);
        return keepNode(made);
    }

    public int receiver(int digits, int scale, int rounding) {
        if (digits < 1 || digits > MOST_DIGITS || scale < 0 || scale > digits
                || rounding < Receiver.TOWARDS_ZERO || rounding > Receiver.PROHIBITED) {
            return WRONG;
        }
        if (receiverCount >= MOST_RECEIVERS) {
            return NONE;
        }
        receivers[receiverCount] = new Receiver(digits, scale, rounding);
        receiverCount++;
        return receiverCount;
    }

    public int run(int kind, int root, boolean phrase) {
        if (kind < KIND_GIVE || kind > KIND_DIVIDE) {
            return WRONG;
        }
        Decimal x = nodeAt(root);
        if (x == null) {
            return NO_SUCH;
        }
        latestRaised = 0;
        int good = 0;
        for (int number = 1; number <= receiverCount; number++) {
            Receiver target = receiverAt(number);
            if (target != null && give(target, kind, x, phrase)) {
                good++;
            }
        }
        return good;
    }

    public long stored(int receiver) {
        Receiver target = receiverAt(receiver);
        return target == null ? 0L : target.held;
    }

    public int set(int receiver, long v) {
        Receiver target = receiverAt(receiver);
        if (target == null) {
            return NO_SUCH;
        }
        target.held = target.lowestDigits(v);
        return 1;
    }

    public boolean error(int receiver) {
        Receiver target = receiverAt(receiver);
        return target != null && target.failed;
    }

    public long rest(int receiver) {
        Receiver target = receiverAt(receiver);
        return target == null ? 0L : target.remainder;
    }

    public long exact(int node, int side) throws ArithmeticException {
        Decimal found = nodeAt(node);
        if (found == null || side < 0) {
            return NONE;
        }
        if (found.code != 0) {
            throw new ArithmeticException("the node's value is raised");
        }
        switch (side) {
            case 0:
                return found.sign;
            case 1:
                return found.count;
            case 2:
                return found.exponent();
            default:
                int index = side - 3;
                return index < found.count ? found.digit(index) : NONE;
        }
    }

    public int raises(int node) {
        Decimal found = nodeAt(node);
        return found == null ? NO_SUCH : found.code;
    }

    public int raised() {
        return latestRaised;
    }

    private Decimal nodeAt(int number) {
        return number < 1 || number > nodeCount ? null : nodes[number - 1];
    }

    private Receiver receiverAt(int number) {
        return number < 1 || number > receiverCount ? null : receivers[number - 1];
    }

    private int keepNode(Decimal made) {
        nodes[nodeCount] = made;
        nodeCount++;
        return nodeCount;
    }

    private void operate(int op, Decimal into, Decimal a, Decimal b) {
        switch (op) {
            case POWER:
                calculator.power(into, a, b);
                break;
            case NEGATE:
                into.copy(a);
                into.sign = -a.sign;
                break;
            default:
                calculate(op, into, a, b);
                break;
        }
    }

    private void calculate(int op, Decimal into, Decimal a, Decimal b) {
        switch (op) {
            case ADD:
                calculator.add(into, a, b, 1);
                break;
            case SUBTRACT:
                calculator.add(into, a, b, -1);
                break;
            case MULTIPLY:
                calculator.multiply(into, a, b);
                break;
            default:
                calculator.divide(into, a, b);
                break;
        }
    }

    /** One receiver's part of a statement; whether it was stored without a size error. */
    private boolean give(Receiver target, int kind, Decimal x, boolean phrase) {
        before.load(target.held, target.scale);
        if (kind == KIND_GIVE) {
            given.copy(x);
        } else {
            // kinds 1 to 4 are the operations 0 to 3, with the receiver on the left
            calculate(kind - 1, given, before, x);
        }
        int code = given.code;
        if (code == 0 && target.refuses(given)) {
            code = INEXACT;
        }
        boolean fits = code == 0 && target.fits(given);
        target.failed = !fits;
        if (!fits) {
            latestRaised = code == 0 ? SIZE : code;
        }
        if (fits || code == 0 && !phrase) {
            target.held = target.lowestDigits(given.sign * target.roundedSize(given));
        }
        if (kind == KIND_DIVIDE) {
            target.remainder = fits ? restOf(target, x) : 0L;
        }
        return fits;
    }

    /** The rest of the division whose quotient is given: the quotient's own rounding has no say in it. */
    private long restOf(Receiver target, Decimal x) {
        given.cut(given.wholeDigits(target.scale));
        calculator.multiply(over, x, given);
        calculator.add(over, before, over, -1);
        return over.sign * over.lowestWhole(target.scale);
    }

    private static long ten(int power) {
        return power < 0 || power >= TENS.length ? 1L : TENS[power];
    }

    /**
     * A decimal, or what is raised instead of it. The digits stand from the highest on in limbs of eight, the first
     * digit never 0 but for the number 0: so a cut and a comparison need no shifting.
     */
    private static final class Decimal {
        static final int LIMBS = 4;
        static final int WIDTH = 8;
        static final int PLACES = LIMBS * WIDTH;
        /** The digits of the longest long. */
        static final int LONGEST = 19;

        int code;
        int sign;
        /** The power of ten that the first digit counts. */
        int top;
        /** How many digits there are up to the last one that is not 0. */
        int count;
        final long[] limbs = new long[LIMBS];

        void clear() {
            code = 0;
            sign = 0;
            top = 0;
            count = 0;
            Arrays.fill(limbs, 0L);
        }

        void raise(int what) {
            clear();
            code = what;
        }

        void copy(Decimal other) {
            code = other.code;
            sign = other.sign;
            top = other.top;
            count = other.count;
            System.arraycopy(other.limbs, 0, limbs, 0, LIMBS);
        }

        /** Takes v * 10^-scale whole: no long has more digits than there are places. */
        void load(long v, int scale) {
            clear();
            if (v == 0) {
                return;
            }
            int length = 1;
            while (length < LONGEST && v / ten(length) != 0) {
                length++;
            }
            long n = v;
            for (int i = length - 1; i >= 0; i--) {
                // Each digit is made positive by itself, as the lowest long has no positive counterpart.
                limbs[i / WIDTH] += Math.abs(n % 10) * ten(WIDTH - 1 - i % WIDTH);
                n /= 10;
            }
            sign = v < 0 ? -1 : 1;
            top = length - 1 - scale;
            cut(PLACES);
        }

        /** Keeps so many digits from the first one on, and counts them anew. */
        void cut(int keep) {
            for (int i = 0; i < LIMBS; i++) {
                int kept = Math.max(0, Math.min(WIDTH, keep - i * WIDTH));
                limbs[i] -= limbs[i] % ten(WIDTH - kept);
            }
            int last = LIMBS - 1;
            while (last >= 0 && limbs[last] == 0) {
                last--;
            }
            if (last < 0) {
                clear();
                return;
            }
            int zeros = 0;
            while (zeros < WIDTH && limbs[last] % ten(zeros + 1) == 0) {
                zeros++;
            }
            count = (last + 1) * WIDTH - zeros;
        }

        int exponent() {
            return count == 0 ? 0 : top + 1 - count;
        }

        /** Digit i from the highest on; 0 outside of the digits. */
        int digit(int i) {
            if (i < 0 || i >= PLACES) {
                return 0;
            }
            return (int) (limbs[i / WIDTH] / ten(WIDTH - 1 - i % WIDTH) % 10);
        }

        /** How many digits stand before the point when counted in 10^-scale; 0 or less when it is below one of these. */
        int wholeDigits(int scale) {
            return count == 0 ? 0 : top + 1 + scale;
        }

        /** The lowest 18 digits of what is whole in 10^-scale. */
        long lowestWhole(int scale) {
            int end = wholeDigits(scale);
            long number = 0;
            for (int i = Math.max(0, end - MOST_DIGITS); i < end; i++) {
                number = number * 10 + digit(i);
            }
            return number;
        }

        /** Compares without the signs. */
        int compareSize(Decimal other) {
            if (count == 0 || other.count == 0) {
                return Integer.compare(count, other.count);
            }
            if (top != other.top) {
                return Integer.compare(top, other.top);
            }
            for (int i = 0; i < LIMBS; i++) {
                if (limbs[i] != other.limbs[i]) {
                    return Long.compare(limbs[i], other.limbs[i]);
                }
            }
            return 0;
        }
    }

    /** The operations, each exact in a wide row of limbs before it is cut to the precision. */
    private static final class Calculator {
        private static final long BASE = 100000000L;
        /** The power of ten of the wide row's first digit in a sum: room above 10^99 for a carry. */
        private static final int SUM_TOP = 103;
        /** Reaches from SUM_TOP down below the last place of the smallest decimal, 10^-130. */
        private static final int WIDE = 30;
        /** Stands for an exponent that a power can't have. */
        private static final int NO_EXPONENT = 100;
        /** A guess leaves at most twelve times the divisor, the next one at most two: far more than is needed. */
        private static final int MOST_GUESSES = 20;

        final int precision;
        private final long[] wide = new long[WIDE];
        private final long[] left = new long[Decimal.LIMBS + 1];
        private final Decimal one = new Decimal();

        Calculator(int precision) {
            this.precision = precision;
            one.load(1L, 0);
        }

        /** a + b, or a - b where factor is -1. */
        void add(Decimal into, Decimal a, Decimal b, int factor) {
            if (passOn(into, a, b)) {
                return;
            }
            int other = b.sign * factor;
            boolean swap = a.compareSize(b) < 0;
            Arrays.fill(wide, 0L);
            place(swap ? b : a, 1);
            place(swap ? a : b, a.sign == other ? 1 : -1);
            carry();
            settle(into, swap ? other : a.sign, SUM_TOP);
        }

        void multiply(Decimal into, Decimal a, Decimal b) {
            if (passOn(into, a, b)) {
                return;
            }
            Arrays.fill(wide, 0L);
            for (int i = 0; i < Decimal.LIMBS; i++) {
                for (int j = 0; j < Decimal.LIMBS; j++) {
                    wide[i + j + 1] += a.limbs[i] * b.limbs[j];
                }
            }
            carry();
            settle(into, a.sign * b.sign, a.top + b.top + 1);
        }

        void divide(Decimal into, Decimal a, Decimal b) {
            if (passOn(into, a, b)) {
                return;
            }
            if (b.sign == 0) {
                into.raise(BY_ZERO);
                return;
            }
            Arrays.fill(wide, 0L);
            left[0] = 0L;
            System.arraycopy(a.limbs, 0, left, 1, Decimal.LIMBS);
            for (int i = 0; i <= Decimal.LIMBS; i++) {
                wide[i] = takeOut(b);
                System.arraycopy(left, 1, left, 0, Decimal.LIMBS);
                left[Decimal.LIMBS] = 0L;
            }
            settle(into, a.sign * b.sign, a.top - b.top + Decimal.WIDTH - 1);
        }

        /** Into must be neither a nor b. */
        void power(Decimal into, Decimal a, Decimal b) {
            if (passOn(into, a, b)) {
                return;
            }
            int times = powerOf(b);
            if (times == NO_EXPONENT || times == 0 && a.sign == 0) {
                into.raise(SIZE);
                return;
            }
            if (times < 0 && a.sign == 0) {
                into.raise(BY_ZERO);
                return;
            }
            into.copy(one);
            for (int i = Math.abs(times); i > 0; i--) {
                multiply(into, into, a);
            }
            if (times < 0) {
                divide(into, one, into);
            }
        }

        private static int powerOf(Decimal b) {
            if (b.sign == 0) {
                return 0;
            }
            if (b.top > 1 || b.exponent() < 0) {
                return NO_EXPONENT;
            }
            return b.sign * (int) b.lowestWhole(0);
        }

        /** What an operand raises, its operation raises too. */
        private static boolean passOn(Decimal into, Decimal a, Decimal b) {
            int code = a.code != 0 ? a.code : b.code;
            if (code == 0) {
                return false;
            }
            into.raise(code);
            return true;
        }

        private void place(Decimal d, int factor) {
            int skip = SUM_TOP - d.top;
            int first = skip / Decimal.WIDTH;
            if (skip < 0 || first + Decimal.LIMBS >= WIDE) {
                return;
            }
            long low = ten(skip % Decimal.WIDTH);
            long high = BASE / low;
            for (int i = 0; i < Decimal.LIMBS; i++) {
                wide[first + i] += factor * (d.limbs[i] / low);
                wide[first + i + 1] += factor * (d.limbs[i] % low * high);
            }
        }

        private void carry() {
            for (int i = WIDE - 1; i > 0; i--) {
                long over = Math.floorDiv(wide[i], BASE);
                wide[i] -= over * BASE;
                wide[i - 1] += over;
            }
        }

        /** How often b goes into what is left, which it leaves less that; each guess is too low, never too high. */
        private long takeOut(Decimal b) {
            long divisor = Math.max(1L, b.limbs[0] + 1);
            long times = 0;
            for (int i = 0; i < MOST_GUESSES && reaches(b); i++) {
                long guess = Math.max(1L, (left[0] * BASE + left[1]) / divisor);
                reduce(b, guess);
                times += guess;
            }
            return times;
        }

        private boolean reaches(Decimal b) {
            if (left[0] != 0) {
                return true;
            }
            for (int i = 0; i < Decimal.LIMBS; i++) {
                if (left[i + 1] != b.limbs[i]) {
                    return left[i + 1] > b.limbs[i];
                }
            }
            return true;
        }

        private void reduce(Decimal b, long times) {
            long borrowed = 0;
            for (int i = Decimal.LIMBS - 1; i >= 0; i--) {
                long rest = left[i + 1] - times * b.limbs[i] + borrowed;
                borrowed = Math.floorDiv(rest, BASE);
                left[i + 1] = rest - borrowed * BASE;
            }
            left[0] += borrowed;
        }

        /** Makes a decimal of the wide row, whose very first place counts 10^highest. */
        private void settle(Decimal into, int sign, int highest) {
            into.clear();
            int first = 0;
            while (first < WIDE && wide[first] == 0) {
                first++;
            }
            if (first == WIDE) {
                return;
            }
            int empty = 0;
            while (empty < Decimal.WIDTH - 1 && wide[first] < ten(Decimal.WIDTH - 1 - empty)) {
                empty++;
            }
            int top = highest - first * Decimal.WIDTH - empty;
            if (top >= REACH) {
                into.raise(SIZE);
                return;
            }
            if (top < -REACH) {
                return;
            }
            long up = ten(empty);
            long down = ten(Decimal.WIDTH - empty);
            for (int i = 0; i < Decimal.LIMBS; i++) {
                into.limbs[i] = wideAt(first + i) % down * up + wideAt(first + i + 1) / down;
            }
            into.sign = sign;
            into.top = top;
            into.cut(precision);
        }

        private long wideAt(int i) {
            return i < 0 || i >= WIDE ? 0L : wide[i];
        }
    }

    /** Holds a number of 10^-scale, and says how a decimal is rounded to it. */
    private static final class Receiver {
        static final int TOWARDS_ZERO = 0;
        static final int AWAY_FROM_ZERO = 1;
        static final int HALF_AWAY = 2;
        static final int HALF_EVEN = 3;
        static final int HALF_TOWARDS = 4;
        static final int GREATER = 5;
        static final int LESSER = 6;
        static final int PROHIBITED = 7;

        final int scale;
        private final int digits;
        private final int rounding;
        long held;
        long remainder;
        boolean failed;

        Receiver(int digits, int scale, int rounding) {
            this.digits = digits;
            this.scale = scale;
            this.rounding = rounding;
        }

        boolean refuses(Decimal d) {
            return rounding == PROHIBITED && !isExact(d);
        }

        boolean fits(Decimal d) {
            return d.wholeDigits(scale) <= digits && roundedSize(d) < ten(digits);
        }

        long lowestDigits(long number) {
            return number % ten(digits);
        }

        /** The rounded number without its sign; of a longer one than 18 digits, one that ends with the same 18. */
        long roundedSize(Decimal d) {
            return d.lowestWhole(scale) + (goesUp(d) ? 1 : 0);
        }

        private boolean isExact(Decimal d) {
            return d.count <= d.wholeDigits(scale);
        }

        private boolean goesUp(Decimal d) {
            if (isExact(d)) {
                return false;
            }
            switch (rounding) {
                case AWAY_FROM_ZERO:
                    return true;
                case HALF_AWAY:
                    return compareToHalf(d) >= 0;
                case HALF_EVEN:
                    return compareToHalf(d) > 0 || compareToHalf(d) == 0 && endsOdd(d);
                case HALF_TOWARDS:
                    return compareToHalf(d) > 0;
                case GREATER:
                    return d.sign > 0;
                case LESSER:
                    return d.sign < 0;
                default:
                    return false;
            }
        }

        private int compareToHalf(Decimal d) {
            int point = d.wholeDigits(scale);
            int tenths = d.digit(point);
            if (tenths != 5) {
                return Integer.compare(tenths, 5);
            }
            return d.count > point + 1 ? 1 : 0;
        }

        private boolean endsOdd(Decimal d) {
            return d.digit(d.wholeDigits(scale) - 1) % 2 != 0;
        }
    }
}
