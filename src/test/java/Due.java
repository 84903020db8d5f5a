import java.math.BigInteger;

/** What the document asks of each operation, told with BigInteger. */
final class Due {
    private Due() {
    }

    static BigInteger two(int op, BigInteger a, BigInteger b) {
        switch (op) {
            case 0: return Wide.wrapped(a.add(b));
            case 1: return Wide.wrapped(a.subtract(b));
            case 2: return Wide.wrapped(a.multiply(b));
            case 3: return b.signum() == 0 ? Wide.ZERO : a.divide(b);
            case 4: return b.signum() == 0 ? Wide.ZERO : a.remainder(b);
            case 5: return b.signum() == 0 ? Wide.ZERO
                : Wide.wrapped(Wide.withSign(a).divide(Wide.withSign(b)));
            case 6: return b.signum() == 0 ? Wide.ZERO
                : Wide.wrapped(Wide.withSign(a).remainder(Wide.withSign(b)));
            case 7: return a.modPow(b, Wide.ALL);
            case 8: return extended(a, b);
            case 9: return Wide.wrapped(b.shiftLeft(upTo256(a)));
            case 10: return b.shiftRight(upTo256(a));
            case 11: return Wide.wrapped(Wide.withSign(b).shiftRight(upTo256(a)));
            case 12: return a.compareTo(Wide.of(31)) > 0 ? Wide.ZERO
                : b.shiftRight(248 - 8 * a.intValue()).and(Wide.of(255));
            case 13: return a.and(b);
            case 14: return a.or(b);
            default: return a.xor(b);
        }
    }

    private static BigInteger extended(BigInteger a, BigInteger b) {
        if (a.compareTo(Wide.of(31)) >= 0) {
            return b;
        }
        int from = 8 * a.intValue() + 7;
        BigInteger n = b;
        for (int bit = from + 1; bit < 256; bit++) {
            n = b.testBit(from) ? n.setBit(bit) : n.clearBit(bit);
        }
        return n;
    }

    private static int upTo256(BigInteger a) {
        return a.min(Wide.of(256)).intValue();
    }

    static BigInteger modular(BigInteger a, BigInteger b, BigInteger c, boolean times) {
        BigInteger whole = times ? a.multiply(b) : a.add(b);
        return c.signum() == 0 ? Wide.ZERO : whole.mod(c);
    }

    static BigInteger turn(BigInteger a, boolean not) {
        return not ? Wide.MAX.xor(a) : Wide.wrapped(a.negate());
    }

    static int compare(BigInteger a, BigInteger b, boolean sign) {
        return sign ? Wide.withSign(a).compareTo(Wide.withSign(b)) : a.compareTo(b);
    }

    static int bytes(BigInteger a) {
        return (a.bitLength() + 7) / 8;
    }
}
