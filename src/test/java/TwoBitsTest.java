import java.math.BigInteger;

/** Promise 4: op 8 to 15 of two, where they turn. */
final class TwoBitsTest extends TwoOf {
    public static void main(String[] args) {
        TwoBitsTest test = new TwoBitsTest();
        Check check = test.check;
        check.sentence("\"8 b with bit 8 a + 7 in all higher ones\"", test::higherBitsAreThatBit);
        check.sentence("\"8 ..\", the lower bits stay", test::lowerBitsStay);
        check.sentence("\"if a is below 31\": 30", test::lastPlaceOfSign);
        check.sentence("\"if a is below 31\": from 31 on it is b", test::fromThirtyOneOn);
        check.sentence("\"9 .. b moved left .. by a bits\"", test::movesLeft);
        check.sentence("\"9 .. (0 if a is 256 or more)\"", test::movedLeftOutOfSight);
        check.sentence("\"10 .. b moved .. right by a bits\"", test::movesRight);
        check.sentence("\"10 .. (0 if a is 256 or more)\"", test::movedRightOutOfSight);
        check.sentence("\"11 likewise right WITH SIGN\"", test::movesRightWithSign);
        check.sentence("\"11 .. (its sign in all bits then)\"", test::onlySignIsLeft);
        check.sentence("\"12 byte a of b, 0 the highest\"", test::bytesFromHighest);
        check.sentence("\"12 .., 0 above 31\"", test::noByteAboveThirtyOne);
        check.sentence("\"13 and\"", test::and);
        check.sentence("\"14 or\"", test::or);
        check.sentence("\"15 exclusive or\"", test::exclusiveOr);
        check.end();
    }

    /** Numbers from this one on, near and far; of the far ones the lowest bits alone would look small. */
    private static BigInteger[] from(int bound) {
        BigInteger far = Wide.of(bound - 1);
        return new BigInteger[] {Wide.of(bound), Wide.of(bound + 1), Wide.of(2 * bound), Wide.of(512), Wide.of(65536),
            Wide.bit(31), Wide.bit(32), Wide.bit(32).add(far), Wide.bit(63), Wide.bit(64), Wide.bit(64).add(far),
            Wide.bit(96), Wide.bit(128).add(Wide.ONE), Wide.bit(160), Wide.bit(192).add(Wide.ONE), Wide.bit(224),
            Wide.LEAST, Wide.LEAST.add(Wide.of(8)), Wide.GREATEST, Wide.of(-bound), Wide.of(-1)};
    }

    private void higherBitsAreThatBit() {
        due(8, 0, 0x80, -128);
        due(8, 0, 0x7F, 0x7F);
        due(8, 0, 0x1234567F, 0x7F);
        due(8, 0, 0x123456FF, -1);
        due(8, 3, 0x80000000L, -0x80000000L);
        for (int a = 0; a < 31; a++) {
            int sign = 8 * a + 7;
            due(8, Wide.of(a), Wide.bit(sign), Wide.wrapped(Wide.bit(sign).negate()));
            due(8, Wide.of(a), Wide.bit(sign - 1), Wide.bit(sign - 1));
            due(8, Wide.of(a), Wide.bit(sign + 1), Wide.ZERO);
            due(8, Wide.of(a), Wide.MAX, Wide.MAX);
            due(8, Wide.of(a), Wide.MAX.clearBit(sign), Wide.bit(sign).subtract(Wide.ONE));
        }
    }

    private void lowerBitsStay() {
        for (int a = 0; a < 31; a++) {
            int sign = 8 * a + 7;
            BigInteger below = Wide.MIXED.mod(Wide.bit(sign));
            due(8, Wide.of(a), Wide.MIXED.clearBit(sign), below);
            due(8, Wide.of(a), Wide.MIXED.setBit(sign), Wide.wrapped(below.subtract(Wide.bit(sign))));
        }
    }

    private void lastPlaceOfSign() {
        due(8, Wide.of(30), Wide.bit(247), Wide.wrapped(Wide.bit(247).negate()));
        due(8, Wide.of(30), Wide.bit(248), Wide.ZERO);
        due(8, Wide.of(30), Wide.LEAST, Wide.ZERO);
        due(8, Wide.of(30), Wide.MAX.clearBit(247), Wide.bit(247).subtract(Wide.ONE));
        due(8, Wide.of(29), Wide.bit(247), Wide.ZERO);
        due(8, Wide.of(29), Wide.bit(239), Wide.wrapped(Wide.bit(239).negate()));
    }

    /** The document names no answer of its own here: with no bit to be put in, its sentence leaves b. */
    private void fromThirtyOneOn() {
        for (BigInteger a : from(31)) {
            for (BigInteger b : new BigInteger[] {Wide.MIXED, Wide.of(0x80), Wide.bit(247), Wide.bit(248), Wide.LEAST,
                Wide.GREATEST, Wide.MAX, Wide.ZERO}) {
                due(8, a, b, b);
            }
        }
    }

    private void movesLeft() {
        due(9, 1, 1, 2);
        due(9, Wide.ZERO, Wide.MIXED, Wide.MIXED);
        due(9, Wide.of(254), Wide.of(3), Wide.bit(255).add(Wide.bit(254)));
        due(9, Wide.of(255), Wide.of(3), Wide.LEAST);
        due(9, Wide.of(255), Wide.of(2), Wide.ZERO);
        for (int bits = 0; bits < 256; bits++) {
            due(9, Wide.of(bits), Wide.ONE, Wide.bit(bits));
            due(9, Wide.of(bits), Wide.MIXED, Wide.wrapped(Wide.MIXED.multiply(Wide.bit(bits))));
        }
    }

    private void movedLeftOutOfSight() {
        due(9, Wide.of(255), Wide.MAX, Wide.LEAST);
        for (BigInteger a : from(256)) {
            due(9, a, Wide.MAX, Wide.ZERO);
            due(9, a, Wide.ONE, Wide.ZERO);
        }
    }

    private void movesRight() {
        due(10, 1, 3, 1);
        due(10, Wide.ZERO, Wide.MIXED, Wide.MIXED);
        due(10, Wide.of(254), Wide.MAX, Wide.of(3));
        due(10, Wide.of(255), Wide.LEAST, Wide.ONE);
        due(10, Wide.of(255), Wide.GREATEST, Wide.ZERO);
        for (int bits = 0; bits < 256; bits++) {
            due(10, Wide.of(bits), Wide.LEAST, Wide.bit(255 - bits));
            due(10, Wide.of(bits), Wide.MIXED, Wide.MIXED.divide(Wide.bit(bits)));
        }
    }

    private void movedRightOutOfSight() {
        due(10, Wide.of(255), Wide.MAX, Wide.ONE);
        for (BigInteger a : from(256)) {
            due(10, a, Wide.MAX, Wide.ZERO);
            due(10, a, Wide.LEAST, Wide.ZERO);
        }
    }

    private void movesRightWithSign() {
        due(11, 1, -2, -1);
        due(11, 1, -3, -2);
        due(11, 1, -1, -1);
        due(11, 1, 6, 3);
        due(11, 1, 1, 0);
        due(11, Wide.ZERO, Wide.MIXED, Wide.MIXED);
        due(11, Wide.of(254), Wide.LEAST, Wide.of(-2));
        due(11, Wide.of(254), Wide.GREATEST, Wide.ONE);
        for (int bits = 0; bits < 256; bits++) {
            due(11, Wide.of(bits), Wide.LEAST, Wide.wrapped(Wide.bit(255 - bits).negate()));
            due(11, Wide.of(bits), Wide.GREATEST, Wide.bit(255 - bits).subtract(Wide.ONE));
            due(11, Wide.of(bits), Wide.MIXED.clearBit(255), Wide.MIXED.clearBit(255).divide(Wide.bit(bits)));
        }
    }

    private void onlySignIsLeft() {
        due(11, Wide.of(255), Wide.LEAST, Wide.MAX);
        due(11, Wide.of(255), Wide.GREATEST, Wide.ZERO);
        for (BigInteger a : from(256)) {
            due(11, a, Wide.LEAST, Wide.MAX);
            due(11, a, Wide.MAX, Wide.MAX);
            due(11, a, Wide.GREATEST, Wide.ZERO);
            due(11, a, Wide.ONE, Wide.ZERO);
            due(11, a, Wide.ZERO, Wide.ZERO);
        }
    }

    private void bytesFromHighest() {
        due(12, Wide.of(0), Wide.MIXED, Wide.of(0x80));
        due(12, Wide.of(1), Wide.MIXED, Wide.of(0x81));
        due(12, Wide.of(30), Wide.MIXED, Wide.of(0xB0));
        due(12, Wide.of(31), Wide.MIXED, Wide.of(0xB1));
        for (int a = 0; a < 32; a++) {
            BigInteger all = Wide.of(255).multiply(Wide.bit(248 - 8 * a));
            due(12, Wide.of(a), all, Wide.of(255));
            due(12, Wide.of(a), Wide.MAX.subtract(all), Wide.ZERO);
            due(12, Wide.of(a), Wide.bit(248 - 8 * a), Wide.ONE);
            due(12, Wide.of(a), Wide.bit(255 - 8 * a), Wide.of(128));
        }
    }

    private void noByteAboveThirtyOne() {
        due(12, Wide.of(31), Wide.MAX, Wide.of(255));
        for (BigInteger a : from(32)) {
            due(12, a, Wide.MAX, Wide.ZERO);
            due(12, a, Wide.MIXED, Wide.ZERO);
        }
    }

    private void and() {
        due(13, 12, 10, 8);
        everyBit(13, false, true);
    }

    private void or() {
        due(14, 12, 10, 14);
        everyBit(14, true, true);
    }

    private void exclusiveOr() {
        due(15, 12, 10, 6);
        everyBit(15, true, false);
    }

    /** Whether a bit is in the answer that one, both of the numbers have. */
    private void everyBit(int op, boolean one, boolean both) {
        for (int place = 0; place < 256; place++) {
            oneMask(op, Wide.bit(place), one, both);
        }
        oneMask(op, Wide.MIXED, one, both);
        oneMask(op, Wide.MAX, one, both);
    }

    private void oneMask(int op, BigInteger mask, boolean one, boolean both) {
        due(op, mask, Wide.ZERO, one ? mask : Wide.ZERO);
        due(op, Wide.ZERO, mask, one ? mask : Wide.ZERO);
        due(op, mask, mask, both ? mask : Wide.ZERO);
    }
}
