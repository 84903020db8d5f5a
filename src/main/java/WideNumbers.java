import java.util.Arrays;

/**
 * Sixteen registers, each with a number of 256 bits.
 *
 * A number is held as a row of limbs of 32 bits, the lowest first, each in a long of its own,
 * so that a sum or a product of two limbs with its carry never leaves the long. What is worked
 * out goes to a row that is no register and is copied to its register at the end, so that this
 * may be one of the operands. These rows are made once, so that no call makes an object.
 */
public final class WideNumbers {
    private static final int REGISTERS = 16;
    private static final int PARTS = 4;
    private static final int LIMBS = 8;
    private static final int LIMB_BITS = 32;
    private static final int NUMBER_BITS = 256;
    private static final int NUMBER_BYTES = 32;
    private static final int BYTE_BITS = 8;
    private static final long LIMB_MASK = 0xFFFFFFFFL;
    private static final long BYTE_MASK = 0xFFL;

    private static final int OPERATIONS = 16;
    private static final int ADD = 0;
    private static final int SUBTRACT = 1;
    private static final int MULTIPLY = 2;
    private static final int DIVIDE = 3;
    private static final int REMAINDER = 4;
    private static final int DIVIDE_WITH_SIGN = 5;
    private static final int REMAINDER_WITH_SIGN = 6;
    private static final int POWER = 7;
    private static final int EXTEND_SIGN = 8;
    private static final int MOVE_LEFT = 9;
    private static final int MOVE_RIGHT = 10;
    private static final int MOVE_RIGHT_WITH_SIGN = 11;
    private static final int BYTE = 12;
    private static final int AND = 13;
    private static final int OR = 14;
    private static final int EXCLUSIVE_OR = 15;

    private final long[][] registers;
    private final long[] result;
    private final long[] first;
    private final long[] second;
    private final long[] whole;
    private final long[] quotient;
    private final long[] remainder;

    public WideNumbers() {
        registers = new long[REGISTERS][LIMBS];
        result = new long[LIMBS];
        first = new long[LIMBS];
        second = new long[LIMBS];
        whole = new long[2 * LIMBS];
        quotient = new long[2 * LIMBS];
        remainder = new long[LIMBS];
    }

    public void set(int r, long p0, long p1, long p2, long p3) throws IllegalArgumentException {
        refuseOutside(r, REGISTERS);
        writePart(registers[r], 0, p0);
        writePart(registers[r], 1, p1);
        writePart(registers[r], 2, p2);
        writePart(registers[r], 3, p3);
    }

    public long get(int r, int part) throws IllegalArgumentException {
        refuseOutside(r, REGISTERS);
        refuseOutside(part, PARTS);
        int low = lowLimbOfPart(part);
        return (registers[r][low + 1] << LIMB_BITS) | registers[r][low];
    }

    public void two(int op, int to, int a, int b) throws IllegalArgumentException {
        refuseOutside(op, OPERATIONS);
        refuseOutside(to, REGISTERS);
        refuseOutside(a, REGISTERS);
        refuseOutside(b, REGISTERS);
        if (op <= POWER) {
            calculate(op, registers[a], registers[b]);
        } else {
            arrangeBits(op, registers[a], registers[b]);
        }
        copyNumber(registers[to], result);
    }

    public void modular(int to, int a, int b, int c, boolean times) throws IllegalArgumentException {
        refuseOutside(to, REGISTERS);
        refuseOutside(a, REGISTERS);
        refuseOutside(b, REGISTERS);
        refuseOutside(c, REGISTERS);
        if (times) {
            multiply(whole, registers[a], registers[b]);
        } else {
            Arrays.fill(whole, 0L);
            whole[LIMBS] = add(whole, registers[a], registers[b]);
        }
        divide(whole, registers[c]);
        copyNumber(registers[to], remainder);
    }

    public void turn(int to, int a, boolean not) throws IllegalArgumentException {
        refuseOutside(to, REGISTERS);
        refuseOutside(a, REGISTERS);
        if (not) {
            invert(result, registers[a]);
        } else {
            negate(result, registers[a]);
        }
        copyNumber(registers[to], result);
    }

    public int compare(int a, int b, boolean sign) throws IllegalArgumentException {
        refuseOutside(a, REGISTERS);
        refuseOutside(b, REGISTERS);
        boolean negative = isNegative(registers[a]);
        if (sign && negative != isNegative(registers[b])) {
            return negative ? -1 : 1;
        }
        // Of two numbers with the same sign, two's complement keeps the order.
        return order(registers[a], registers[b]);
    }

    public int bytes(int a) throws IllegalArgumentException {
        refuseOutside(a, REGISTERS);
        return (usedBits(registers[a]) + BYTE_BITS - 1) / BYTE_BITS;
    }

    private static void refuseOutside(int number, int bound) {
        if (number < 0 || number >= bound) {
            throw new IllegalArgumentException("a number out of range");
        }
    }

    private void calculate(int op, long[] x, long[] y) {
        switch (op) {
            case ADD:
                add(result, x, y);
                break;
            case SUBTRACT:
                subtract(result, x, y);
                break;
            case MULTIPLY:
                multiply(result, x, y);
                break;
            case DIVIDE:
                divide(x, y);
                copyNumber(result, quotient);
                break;
            case REMAINDER:
                divide(x, y);
                copyNumber(result, remainder);
                break;
            case DIVIDE_WITH_SIGN:
                divideSizes(x, y);
                copyWithSign(result, quotient, isNegative(x) != isNegative(y));
                break;
            case REMAINDER_WITH_SIGN:
                divideSizes(x, y);
                copyWithSign(result, remainder, isNegative(x));
                break;
            case POWER:
                raise(x, y);
                break;
            default:
                break;
        }
    }

    private void arrangeBits(int op, long[] x, long[] y) {
        switch (op) {
            case EXTEND_SIGN:
                extendSign(x, y);
                break;
            case MOVE_LEFT:
                moveLeft(result, y, valueUpTo(x, NUMBER_BITS));
                break;
            case MOVE_RIGHT:
                moveRight(result, y, valueUpTo(x, NUMBER_BITS), 0L);
                break;
            case MOVE_RIGHT_WITH_SIGN:
                moveRight(result, y, valueUpTo(x, NUMBER_BITS), limbOfSign(y));
                break;
            case BYTE:
                pickByte(x, y);
                break;
            case AND:
                and(result, x, y);
                break;
            case OR:
                or(result, x, y);
                break;
            case EXCLUSIVE_OR:
                exclusiveOr(result, x, y);
                break;
            default:
                break;
        }
    }

    private static int lowLimbOfPart(int part) {
        return 2 * (PARTS - 1 - part);
    }

    private static void writePart(long[] number, int part, long bits) {
        int low = lowLimbOfPart(part);
        number[low] = bits & LIMB_MASK;
        number[low + 1] = bits >>> LIMB_BITS;
    }

    private static void copyNumber(long[] into, long[] from) {
        System.arraycopy(from, 0, into, 0, LIMBS);
    }

    private static void copyWithSign(long[] into, long[] size, boolean negative) {
        if (negative) {
            negate(into, size);
        } else {
            copyNumber(into, size);
        }
    }

    /** Answers what is carried out of the highest limb: 0 or 1. */
    private static long add(long[] into, long[] x, long[] y) {
        long carry = 0;
        for (int i = 0; i < LIMBS; i++) {
            long sum = x[i] + y[i] + carry;
            into[i] = sum & LIMB_MASK;
            carry = sum >>> LIMB_BITS;
        }
        return carry;
    }

    private static void subtract(long[] into, long[] x, long[] y) {
        long borrow = 0;
        for (int i = 0; i < LIMBS; i++) {
            long difference = x[i] - y[i] - borrow;
            into[i] = difference & LIMB_MASK;
            borrow = difference < 0 ? 1 : 0;
        }
    }

    /** Fills as many limbs of the product as the row has: LIMBS of them wrap, twice as many hold it whole. */
    private static void multiply(long[] into, long[] x, long[] y) {
        Arrays.fill(into, 0L);
        for (int i = 0; i < LIMBS; i++) {
            long carry = 0;
            for (int j = 0; j < LIMBS && i + j < into.length; j++) {
                // At most (2^32 - 1)^2 + 2 (2^32 - 1) = 2^64 - 1: no bit is lost.
                long sum = x[i] * y[j] + into[i + j] + carry;
                into[i + j] = sum & LIMB_MASK;
                carry = sum >>> LIMB_BITS;
            }
            if (i + LIMBS < into.length) {
                into[i + LIMBS] = carry;
            }
        }
    }

    /** Long division bit by bit, to quotient and remainder; both are 0 if the divisor is 0. */
    private void divide(long[] dividend, long[] divisor) {
        Arrays.fill(quotient, 0L);
        Arrays.fill(remainder, 0L);
        if (usedBits(divisor) == 0) {
            return;
        }
        for (int bit = usedBits(dividend) - 1; bit >= 0; bit--) {
            long carry = doubleAndAdd(remainder, bitAt(dividend, bit));
            // With a carry the remainder has 257 bits; the subtraction that wraps takes it back.
            if (carry != 0 || order(remainder, divisor) >= 0) {
                subtract(remainder, remainder, divisor);
                quotient[bit / LIMB_BITS] |= 1L << (bit % LIMB_BITS);
            }
        }
    }

    /** The least number's size is 2^255, which has its place in a row without sign. */
    private void divideSizes(long[] x, long[] y) {
        copyWithSign(first, x, isNegative(x));
        copyWithSign(second, y, isNegative(y));
        divide(first, second);
    }

    /** Answers the bit that is moved out of the highest limb. */
    private static long doubleAndAdd(long[] number, long bit) {
        long carry = bit;
        for (int i = 0; i < LIMBS; i++) {
            long twice = (number[i] << 1) | carry;
            number[i] = twice & LIMB_MASK;
            carry = twice >>> LIMB_BITS;
        }
        return carry;
    }

    private void raise(long[] base, long[] exponent) {
        Arrays.fill(result, 0L);
        result[0] = 1;
        for (int bit = usedBits(exponent) - 1; bit >= 0; bit--) {
            multiply(first, result, result);
            if (bitAt(exponent, bit) == 0) {
                copyNumber(result, first);
            } else {
                multiply(result, first, base);
            }
        }
    }

    private void extendSign(long[] x, long[] y) {
        int highestByte = NUMBER_BYTES - 1;
        int above = BYTE_BITS * (highestByte - valueUpTo(x, highestByte));
        moveLeft(first, y, above);
        moveRight(result, first, above, limbOfSign(first));
    }

    private static void moveLeft(long[] into, long[] number, int bits) {
        int limbs = bits / LIMB_BITS;
        for (int i = 0; i < LIMBS; i++) {
            long pair = (limbOr(number, i - limbs, 0L) << LIMB_BITS) | limbOr(number, i - limbs - 1, 0L);
            into[i] = (pair << (bits % LIMB_BITS)) >>> LIMB_BITS;
        }
    }

    private static void moveRight(long[] into, long[] number, int bits, long outside) {
        int limbs = bits / LIMB_BITS;
        for (int i = 0; i < LIMBS; i++) {
            long pair = (limbOr(number, i + limbs + 1, outside) << LIMB_BITS) | limbOr(number, i + limbs, outside);
            into[i] = (pair >>> (bits % LIMB_BITS)) & LIMB_MASK;
        }
    }

    private static long limbOr(long[] number, int index, long outside) {
        return index >= 0 && index < LIMBS ? number[index] : outside;
    }

    private void pickByte(long[] x, long[] y) {
        Arrays.fill(result, 0L);
        int fromHighest = valueUpTo(x, NUMBER_BYTES);
        if (fromHighest < NUMBER_BYTES) {
            int bit = BYTE_BITS * (NUMBER_BYTES - 1 - fromHighest);
            result[0] = (y[bit / LIMB_BITS] >>> (bit % LIMB_BITS)) & BYTE_MASK;
        }
    }

    private static void and(long[] into, long[] x, long[] y) {
        for (int i = 0; i < LIMBS; i++) {
            into[i] = x[i] & y[i];
        }
    }

    private static void or(long[] into, long[] x, long[] y) {
        for (int i = 0; i < LIMBS; i++) {
            into[i] = x[i] | y[i];
        }
    }

    private static void exclusiveOr(long[] into, long[] x, long[] y) {
        for (int i = 0; i < LIMBS; i++) {
            into[i] = x[i] ^ y[i];
        }
    }

    private static void invert(long[] into, long[] x) {
        for (int i = 0; i < LIMBS; i++) {
            into[i] = x[i] ^ LIMB_MASK;
        }
    }

    private static void negate(long[] into, long[] x) {
        long carry = 1;
        for (int i = 0; i < LIMBS; i++) {
            long sum = (x[i] ^ LIMB_MASK) + carry;
            into[i] = sum & LIMB_MASK;
            carry = sum >>> LIMB_BITS;
        }
    }

    private static boolean isNegative(long[] number) {
        return bitAt(number, NUMBER_BITS - 1) != 0;
    }

    private static long limbOfSign(long[] number) {
        return isNegative(number) ? LIMB_MASK : 0L;
    }

    private static long bitAt(long[] row, int bit) {
        return (row[bit / LIMB_BITS] >>> (bit % LIMB_BITS)) & 1L;
    }

    private static int order(long[] x, long[] y) {
        for (int i = LIMBS - 1; i >= 0; i--) {
            if (x[i] != y[i]) {
                return x[i] < y[i] ? -1 : 1;
            }
        }
        return 0;
    }

    private static int usedBits(long[] row) {
        for (int i = row.length - 1; i >= 0; i--) {
            if (row[i] != 0) {
                return LIMB_BITS * (i + 1) - Integer.numberOfLeadingZeros((int) row[i]);
            }
        }
        return 0;
    }

    /** The number itself, or the bound if it is above it. */
    private static int valueUpTo(long[] number, int bound) {
        return usedBits(number) > LIMB_BITS || number[0] > bound ? bound : (int) number[0];
    }
}
