import java.math.BigInteger;
import java.util.ArrayList;
import java.util.List;
import java.util.Random;

/** Numbers of 256 bits for the tests, as BigInteger without sign. */
final class Wide {
    static final int REGISTERS = 16;
    static final BigInteger ZERO = BigInteger.ZERO;
    static final BigInteger ONE = BigInteger.ONE;
    static final BigInteger ALL = ONE.shiftLeft(256);
    static final BigInteger MAX = ALL.subtract(ONE);
    static final BigInteger LEAST = ONE.shiftLeft(255);
    static final BigInteger GREATEST = LEAST.subtract(ONE);
    /** Its bytes differ from each other, and its highest bit is set. */
    static final BigInteger MIXED = hex("8081828384858687888990919293949596979899a0a1a2a3a4a5a6a7a8a9b0b1");
    static final boolean[] BOTH = {false, true};

    private Wide() {
    }

    static BigInteger of(long n) {
        return wrapped(BigInteger.valueOf(n));
    }

    static BigInteger hex(String digits) {
        return new BigInteger(digits, 16);
    }

    /** Two to this power. */
    static BigInteger bit(int place) {
        return ONE.shiftLeft(place);
    }

    static BigInteger wrapped(BigInteger n) {
        return n.mod(ALL);
    }

    static BigInteger withSign(BigInteger n) {
        return n.testBit(255) ? n.subtract(ALL) : n;
    }

    static void put(WideNumbers w, int r, BigInteger n) {
        w.set(r, part(n, 0), part(n, 1), part(n, 2), part(n, 3));
    }

    static long part(BigInteger n, int part) {
        return n.shiftRight(64 * (3 - part)).longValue();
    }

    static BigInteger read(WideNumbers w, int r) {
        BigInteger n = ZERO;
        for (int part = 0; part < 4; part++) {
            n = n.shiftLeft(64).add(new BigInteger(Long.toUnsignedString(w.get(r, part))));
        }
        return n;
    }

    /** An object with another number in each register. */
    static WideNumbers filled() {
        WideNumbers w = new WideNumbers();
        for (int r = 0; r < REGISTERS; r++) {
            put(w, r, filling(r));
        }
        return w;
    }

    /** An object that other calls have used before, with something left over wherever they work. */
    static WideNumbers used() {
        WideNumbers w = new WideNumbers();
        put(w, 14, MAX);
        put(w, 15, LEAST.add(of(5)));
        w.two(7, 13, 14, 14);
        w.two(5, 13, 15, 14);
        w.two(3, 13, 14, 15);
        w.modular(13, 14, 14, 15, true);
        return w;
    }

    static BigInteger filling(int r) {
        return new BigInteger(256, new Random(1000 + r)).setBit(255 - r);
    }

    /** Numbers at which carries, signs, parts and the bounds of the document turn. */
    static List<BigInteger> edges() {
        List<BigInteger> edges = new ArrayList<>();
        for (int n : new int[] {0, 1, 2, 3, 7, 8, 15, 29, 30, 31, 32, 33, 63, 64, 127, 128, 254, 255, 256, 257}) {
            edges.add(of(n));
        }
        for (int n : new int[] {-1, -2, -3, -7, -128, -129, -256}) {
            edges.add(of(n));
        }
        for (int bit : new int[] {32, 64, 96, 128, 192, 224, 248, 255}) {
            edges.add(bit(bit).subtract(ONE));
            edges.add(bit(bit));
            edges.add(bit(bit).add(ONE));
        }
        edges.add(hex("ffffffff00000000ffffffff00000000ffffffff00000000ffffffff00000000"));
        edges.add(hex("00000000ffffffff00000000ffffffff00000000ffffffff00000000ffffffff"));
        edges.add(MIXED);
        edges.add(hex("7f01020304050607080910111213141516171819202122232425262728293031"));
        return edges;
    }

    /** Of any length up to 256 bits, so that short ones come as often as long ones. */
    static BigInteger any(Random random) {
        BigInteger n = new BigInteger(random.nextInt(257), random);
        return random.nextInt(4) == 0 ? wrapped(n.negate()) : n;
    }
}
