import java.math.BigInteger;
import java.util.List;
import java.util.Random;

/** Promise 4: two, with each of its sixteen operations. */
final class TwoTest {
    private static final BigInteger MIXED = Wide.hex("8081828384858687888990919293949596979899a0a1a2a3a4a5a6a7a8a9b0b1");

    private final Check check = new Check();

    public static void main(String[] args) {
        TwoTest test = new TwoTest();
        test.sumsAndProductsWrap();
        test.divisionWithoutSign();
        test.divisionWithSign();
        test.powers();
        test.signExtension();
        test.shifts();
        test.bytesAndBits();
        test.edgesWithEachOther();
        test.anyNumbers();
        test.everyRegisterServes();
        test.outsideIsRefused();
        test.check.end();
    }

    private void due(int op, BigInteger a, BigInteger b, BigInteger answer) {
        WideNumbers w = new WideNumbers();
        Wide.put(w, 4, a);
        Wide.put(w, 11, b);
        w.two(op, 7, 4, 11);
        String what = "two(" + op + ") of " + a.toString(16) + " and " + b.toString(16);
        check.number(what, Wide.read(w, 7), answer);
        check.number(what + ": a behind it", Wide.read(w, 4), a);
        check.number(what + ": b behind it", Wide.read(w, 11), b);
    }

    private void due(int op, long a, long b, long answer) {
        due(op, Wide.of(a), Wide.of(b), Wide.of(answer));
    }

    private void sumsAndProductsWrap() {
        due(0, 2, 3, 5);
        due(0, Wide.MAX, Wide.ONE, Wide.ZERO);
        due(0, Wide.MAX, Wide.MAX, Wide.of(-2));
        due(0, Wide.of(0xFFFFFFFFL), Wide.ONE, Wide.ONE.shiftLeft(32));
        due(1, 5, 3, 2);
        due(1, 3, 5, -2);
        due(1, Wide.ZERO, Wide.ONE, Wide.MAX);
        due(1, Wide.ONE.shiftLeft(192), Wide.ONE, Wide.ONE.shiftLeft(192).subtract(Wide.ONE));
        due(2, 6, 7, 42);
        due(2, Wide.MAX, Wide.MAX, Wide.ONE);
        due(2, -3, 5, -15);
        due(2, Wide.ONE.shiftLeft(128), Wide.ONE.shiftLeft(128), Wide.ZERO);
        due(2, Wide.ONE.shiftLeft(127), Wide.ONE.shiftLeft(128), Wide.LEAST);
    }

    private void divisionWithoutSign() {
        due(3, 17, 5, 3);
        due(4, 17, 5, 2);
        due(3, 5, 17, 0);
        due(4, 5, 17, 5);
        due(3, Wide.MAX, Wide.MAX, Wide.ONE);
        due(4, Wide.MAX, Wide.MAX, Wide.ZERO);
        due(3, Wide.MAX, Wide.of(2), Wide.LEAST.subtract(Wide.ONE));
        due(3, Wide.MAX, Wide.LEAST.add(Wide.ONE), Wide.ONE);
        due(4, Wide.MAX, Wide.LEAST.add(Wide.ONE), Wide.LEAST.subtract(Wide.of(2)));
        due(3, Wide.MAX, Wide.ZERO, Wide.ZERO);
        due(4, Wide.MAX, Wide.ZERO, Wide.ZERO);
        due(3, 0, 0, 0);
        due(4, 0, 0, 0);
    }

    private void divisionWithSign() {
        due(5, 7, 2, 3);
        due(5, -7, 2, -3);
        due(5, 7, -2, -3);
        due(5, -7, -2, 3);
        due(6, 7, 2, 1);
        due(6, -7, 2, -1);
        due(6, 7, -2, 1);
        due(6, -7, -2, -1);
        due(6, -8, 2, 0);
        due(5, -1, 2, 0);
        due(6, -1, 2, -1);
        due(5, Wide.LEAST, Wide.MAX, Wide.LEAST);
        due(6, Wide.LEAST, Wide.MAX, Wide.ZERO);
        due(5, Wide.LEAST, Wide.ONE, Wide.LEAST);
        due(5, Wide.LEAST, Wide.LEAST, Wide.ONE);
        due(5, Wide.ONE, Wide.LEAST, Wide.ZERO);
        due(6, Wide.ONE, Wide.LEAST, Wide.ONE);
        due(5, -7, 0, 0);
        due(6, -7, 0, 0);
        due(5, Wide.LEAST, Wide.ZERO, Wide.ZERO);
        due(6, Wide.LEAST, Wide.ZERO, Wide.ZERO);
    }

    private void powers() {
        due(7, 3, 5, 243);
        due(7, 0, 0, 1);
        due(7, 0, 5, 0);
        due(7, 5, 0, 1);
        due(7, 5, 1, 5);
        due(7, Wide.of(2), Wide.of(255), Wide.LEAST);
        due(7, 2, 256, 0);
        due(7, Wide.MAX, Wide.MAX, Wide.MAX);
        due(7, Wide.MAX, Wide.of(2), Wide.ONE);
        due(7, Wide.MAX, Wide.LEAST, Wide.ONE);
        due(7, Wide.of(2), Wide.MAX, Wide.ZERO);
        // The powers of an odd number come round again after 2^254 steps at most.
        due(7, Wide.of(3), Wide.ONE.shiftLeft(254), Wide.ONE);
        due(7, Wide.of(3), Wide.ONE.shiftLeft(254).add(Wide.of(5)), Wide.of(243));
    }

    private void signExtension() {
        due(8, 0, 0x80, -128);
        due(8, 0, 0x7F, 0x7F);
        due(8, 0, 0x1234567F, 0x7F);
        due(8, 0, 0x123456FF, -1);
        due(8, 1, 0x8000, -32768);
        due(8, 3, 0x80000000L, -0x80000000L);
        due(8, 4, 0x80000000L, 0x80000000L);
        BigInteger bit247 = Wide.ONE.shiftLeft(247);
        due(8, Wide.of(30), bit247, Wide.wrapped(bit247.negate()));
        due(8, Wide.of(30), Wide.MAX.subtract(bit247), bit247.subtract(Wide.ONE));
        due(8, Wide.of(29), bit247, Wide.ZERO);
        for (BigInteger high : new BigInteger[] {Wide.of(31), Wide.of(32), Wide.of(256), Wide.MAX,
            Wide.ONE.shiftLeft(32), Wide.ONE.shiftLeft(64), Wide.ONE.shiftLeft(255)}) {
            due(8, high, MIXED, MIXED);
            due(8, high, Wide.of(0x80), Wide.of(0x80));
        }
    }

    private void shifts() {
        due(9, 1, 1, 2);
        due(9, 0, 77, 77);
        due(9, Wide.of(255), Wide.of(3), Wide.LEAST);
        due(10, 1, 3, 1);
        due(10, 0, 77, 77);
        due(10, Wide.of(255), Wide.MAX, Wide.ONE);
        due(11, 1, -2, -1);
        due(11, 1, -3, -2);
        due(11, 1, 6, 3);
        due(11, Wide.of(255), Wide.LEAST, Wide.MAX);
        for (BigInteger far : new BigInteger[] {Wide.of(256), Wide.of(257), Wide.of(512), Wide.MAX, Wide.LEAST,
            Wide.ONE.shiftLeft(31), Wide.ONE.shiftLeft(32), Wide.ONE.shiftLeft(64), Wide.ONE.shiftLeft(128).add(Wide.ONE)}) {
            due(9, far, Wide.MAX, Wide.ZERO);
            due(10, far, Wide.MAX, Wide.ZERO);
            due(11, far, Wide.LEAST, Wide.MAX);
            due(11, far, Wide.LEAST.subtract(Wide.ONE), Wide.ZERO);
        }
        for (int bits = 0; bits <= 260; bits++) {
            for (int op = 9; op <= 11; op++) {
                due(op, Wide.of(bits), MIXED, Due.two(op, Wide.of(bits), MIXED));
            }
        }
    }

    private void bytesAndBits() {
        due(12, Wide.of(0), MIXED, Wide.of(0x80));
        due(12, Wide.of(1), MIXED, Wide.of(0x81));
        due(12, Wide.of(30), MIXED, Wide.of(0xB0));
        due(12, Wide.of(31), MIXED, Wide.of(0xB1));
        due(12, Wide.of(32), MIXED, Wide.ZERO);
        due(12, Wide.MAX, MIXED, Wide.ZERO);
        due(12, Wide.ONE.shiftLeft(32), MIXED, Wide.ZERO);
        due(12, Wide.ONE.shiftLeft(64), MIXED, Wide.ZERO);
        for (int place = 0; place <= 40; place++) {
            due(12, Wide.of(place), MIXED, Due.two(12, Wide.of(place), MIXED));
            due(8, Wide.of(place), MIXED, Due.two(8, Wide.of(place), MIXED));
        }
        due(13, 12, 10, 8);
        due(14, 12, 10, 14);
        due(15, 12, 10, 6);
        due(13, Wide.MAX, MIXED, MIXED);
        due(14, Wide.ZERO, MIXED, MIXED);
        due(15, MIXED, MIXED, Wide.ZERO);
    }

    private void edgesWithEachOther() {
        List<BigInteger> edges = Wide.edges();
        for (int op = 0; op < 16; op++) {
            for (BigInteger a : edges) {
                for (BigInteger b : edges) {
                    due(op, a, b, Due.two(op, a, b));
                }
            }
        }
    }

    private void anyNumbers() {
        Random random = new Random(4);
        for (int i = 0; i < 20000; i++) {
            BigInteger a = Wide.any(random);
            BigInteger b = Wide.any(random);
            int op = i % 16;
            due(op, a, b, Due.two(op, a, b));
        }
    }

    /** Every target with every pair of operands, the same ones among them; no other register changes. */
    private void everyRegisterServes() {
        for (int to = 0; to < Wide.REGISTERS; to++) {
            for (int a = 0; a < Wide.REGISTERS; a++) {
                for (int b = 0; b < Wide.REGISTERS; b++) {
                    oneCall((to + a + b) % 16, to, a, b);
                }
            }
        }
        for (int op = 0; op < 16; op++) {
            oneCall(op, 5, 5, 6);
            oneCall(op, 6, 5, 6);
            oneCall(op, 7, 5, 5);
            oneCall(op, 5, 5, 5);
        }
    }

    private void oneCall(int op, int to, int a, int b) {
        WideNumbers w = Wide.filled();
        w.two(op, to, a, b);
        for (int r = 0; r < Wide.REGISTERS; r++) {
            BigInteger due = r == to ? Due.two(op, Wide.filling(a), Wide.filling(b)) : Wide.filling(r);
            check.number("register " + r + " behind two(" + op + ", " + to + ", " + a + ", " + b + ")", Wide.read(w, r), due);
        }
    }

    private void outsideIsRefused() {
        for (int bad : Wide.OUTSIDE_REGISTERS) {
            check.refused("two(" + bad + ", 1, 2, 3)", w -> w.two(bad, 1, 2, 3));
            for (int op = 0; op < 16; op++) {
                int good = op;
                check.refused("two(" + op + ", " + bad + ", 2, 3)", w -> w.two(good, bad, 2, 3));
                check.refused("two(" + op + ", 1, " + bad + ", 3)", w -> w.two(good, 1, bad, 3));
                check.refused("two(" + op + ", 1, 2, " + bad + ")", w -> w.two(good, 1, 2, bad));
            }
        }
    }
}
