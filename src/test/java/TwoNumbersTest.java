import java.math.BigInteger;

/** Promise 4: op 0 to 7 of two, where they turn. */
final class TwoNumbersTest extends TwoOf {
    /** Places where one limb or part of a number ends and the next begins. */
    private static final int[] SEAMS = {8, 31, 32, 63, 64, 96, 127, 128, 160, 191, 192, 224, 255};

    public static void main(String[] args) {
        TwoNumbersTest test = new TwoNumbersTest();
        Check check = test.check;
        check.sentence("\"op 0 a + b\", sums that wrap", test::sumsWrap);
        check.sentence("\"1 a - b\", differences that wrap", test::differencesWrap);
        check.sentence("\"2 a b\", products that wrap", test::productsWrap);
        check.sentence("\"3 a / b\"", test::quotients);
        check.sentence("\"4 what is left of that\"", test::remainders);
        check.sentence("\"3 a / b, 4 what is left of that\", without sign", test::divisionHasNoSign);
        check.sentence("\"5, 6 the same WITH SIGN (toward 0\"", test::towardZero);
        check.sentence("\"what is left has a's sign\"", test::leftHasSignOfFirst);
        check.sentence("\"the least one by -1 is itself\"", test::leastByMinusOne);
        check.sentence("\"the least one by -1 .., 0 left\"", test::leastByMinusOneLeavesZero);
        check.sentence("\"0 if b is 0\": op 3", () -> test.zeroDivisor(3));
        check.sentence("\"0 if b is 0\": op 4", () -> test.zeroDivisor(4));
        check.sentence("\"0 if b is 0\": op 5", () -> test.zeroDivisor(5));
        check.sentence("\"0 if b is 0\": op 6", () -> test.zeroDivisor(6));
        check.sentence("\"0 if b is 0\": b 1 and -1 are not 0", test::besideZeroDivisor);
        check.sentence("\"7 a to the power of b\"", test::powers);
        check.sentence("\"7 a to the power of b\", powers that wrap", test::powersWrap);
        check.sentence("\"1 for 0 to 0\"", test::zeroToZero);
        check.end();
    }

    private void sumsWrap() {
        due(0, 2, 3, 5);
        due(0, 0, 0, 0);
        due(0, Wide.MAX.subtract(Wide.ONE), Wide.ONE, Wide.MAX);
        due(0, Wide.MAX, Wide.ZERO, Wide.MAX);
        due(0, Wide.MAX, Wide.ONE, Wide.ZERO);
        due(0, Wide.ONE, Wide.MAX, Wide.ZERO);
        due(0, Wide.MAX, Wide.of(2), Wide.ONE);
        due(0, Wide.MAX, Wide.MAX, Wide.of(-2));
        due(0, Wide.LEAST, Wide.GREATEST, Wide.MAX);
        due(0, Wide.LEAST, Wide.LEAST, Wide.ZERO);
        due(0, Wide.LEAST, Wide.LEAST.add(Wide.ONE), Wide.ONE);
        due(0, Wide.GREATEST, Wide.ONE, Wide.LEAST);
        for (int seam : SEAMS) {
            due(0, Wide.bit(seam).subtract(Wide.ONE), Wide.ONE, Wide.bit(seam));
            due(0, Wide.MAX, Wide.bit(seam), Wide.bit(seam).subtract(Wide.ONE));
        }
    }

    private void differencesWrap() {
        due(1, 5, 3, 2);
        due(1, 1, 0, 1);
        due(1, 1, 1, 0);
        due(1, 0, 0, 0);
        due(1, Wide.ZERO, Wide.ONE, Wide.MAX);
        due(1, 0, 2, -2);
        due(1, 3, 5, -2);
        due(1, Wide.MAX, Wide.MAX, Wide.ZERO);
        due(1, Wide.MAX.subtract(Wide.ONE), Wide.MAX, Wide.MAX);
        due(1, Wide.ZERO, Wide.MAX, Wide.ONE);
        due(1, Wide.ZERO, Wide.LEAST, Wide.LEAST);
        due(1, Wide.LEAST, Wide.ONE, Wide.GREATEST);
        due(1, Wide.GREATEST, Wide.LEAST, Wide.MAX);
        for (int seam : SEAMS) {
            due(1, Wide.bit(seam), Wide.ONE, Wide.bit(seam).subtract(Wide.ONE));
            due(1, Wide.bit(seam), Wide.bit(seam), Wide.ZERO);
            due(1, Wide.bit(seam).subtract(Wide.ONE), Wide.bit(seam), Wide.MAX);
        }
    }

    private void productsWrap() {
        BigInteger root = Wide.bit(128);
        due(2, 6, 7, 42);
        due(2, Wide.MAX, Wide.ZERO, Wide.ZERO);
        due(2, Wide.ZERO, Wide.MAX, Wide.ZERO);
        due(2, Wide.MAX, Wide.ONE, Wide.MAX);
        due(2, root.subtract(Wide.ONE), root.add(Wide.ONE), Wide.MAX);
        due(2, root, root, Wide.ZERO);
        due(2, root, root.add(Wide.ONE), root);
        due(2, root.add(Wide.ONE), root.add(Wide.ONE), root.add(root).add(Wide.ONE));
        due(2, Wide.LEAST, Wide.ONE, Wide.LEAST);
        due(2, Wide.LEAST, Wide.of(2), Wide.ZERO);
        due(2, Wide.LEAST, Wide.of(3), Wide.LEAST);
        due(2, Wide.GREATEST, Wide.of(2), Wide.of(-2));
        due(2, Wide.MAX, Wide.of(2), Wide.of(-2));
        due(2, Wide.MAX, Wide.MAX, Wide.ONE);
        due(2, -3, 5, -15);
        for (int seam : SEAMS) {
            due(2, Wide.bit(seam), Wide.bit(255 - seam), Wide.LEAST);
            due(2, Wide.bit(seam), Wide.bit(256 - seam), Wide.ZERO);
        }
    }

    private void quotients() {
        due(3, 17, 5, 3);
        due(3, 4, 5, 0);
        due(3, 5, 5, 1);
        due(3, 6, 5, 1);
        due(3, 9, 5, 1);
        due(3, 10, 5, 2);
        due(3, 0, 5, 0);
        for (int seam : SEAMS) {
            BigInteger b = Wide.bit(seam);
            due(3, b.subtract(Wide.ONE), b, Wide.ZERO);
            due(3, b, b, Wide.ONE);
            due(3, b.add(Wide.ONE), b, Wide.ONE);
            due(3, Wide.MAX, b, Wide.bit(256 - seam).subtract(Wide.ONE));
        }
    }

    private void remainders() {
        due(4, 17, 5, 2);
        due(4, 4, 5, 4);
        due(4, 5, 5, 0);
        due(4, 6, 5, 1);
        due(4, 9, 5, 4);
        due(4, 10, 5, 0);
        due(4, 0, 5, 0);
        for (int seam : SEAMS) {
            BigInteger b = Wide.bit(seam);
            due(4, b.subtract(Wide.ONE), b, b.subtract(Wide.ONE));
            due(4, b, b, Wide.ZERO);
            due(4, b.add(Wide.ONE), b, Wide.ONE);
            due(4, Wide.MAX, b, b.subtract(Wide.ONE));
        }
    }

    private void divisionHasNoSign() {
        due(3, Wide.MAX, Wide.of(2), Wide.GREATEST);
        due(4, Wide.MAX, Wide.of(2), Wide.ONE);
        due(3, Wide.LEAST, Wide.of(2), Wide.bit(254));
        due(4, Wide.LEAST, Wide.of(2), Wide.ZERO);
        due(3, Wide.MAX, Wide.MAX, Wide.ONE);
        due(4, Wide.MAX, Wide.MAX, Wide.ZERO);
        due(3, Wide.MAX.subtract(Wide.ONE), Wide.MAX, Wide.ZERO);
        due(4, Wide.MAX.subtract(Wide.ONE), Wide.MAX, Wide.of(-2));
        due(3, Wide.MAX, Wide.LEAST.add(Wide.ONE), Wide.ONE);
        due(4, Wide.MAX, Wide.LEAST.add(Wide.ONE), Wide.GREATEST.subtract(Wide.ONE));
        due(3, Wide.LEAST, Wide.MAX, Wide.ZERO);
        due(4, Wide.LEAST, Wide.MAX, Wide.LEAST);
    }

    private void towardZero() {
        for (int a = -9; a <= 9; a++) {
            for (int b = -4; b <= 4; b++) {
                if (b != 0) {
                    due(5, a, b, a / b);
                }
            }
        }
        due(5, -1, 2, 0);
        due(5, -3, 2, -1);
        due(5, 3, -2, -1);
        due(5, Wide.MAX, Wide.LEAST, Wide.ZERO);
        due(5, Wide.GREATEST, Wide.LEAST, Wide.ZERO);
        due(5, Wide.LEAST, Wide.GREATEST, Wide.of(-1));
        due(5, Wide.LEAST, Wide.LEAST, Wide.ONE);
        due(5, Wide.LEAST.add(Wide.ONE), Wide.LEAST, Wide.ZERO);
        due(5, Wide.LEAST.add(Wide.ONE), Wide.of(2), Wide.wrapped(Wide.bit(254).subtract(Wide.ONE).negate()));
    }

    private void leftHasSignOfFirst() {
        for (int a = -9; a <= 9; a++) {
            for (int b = -4; b <= 4; b++) {
                if (b != 0) {
                    due(6, a, b, a % b);
                }
            }
        }
        due(6, 7, 2, 1);
        due(6, -7, 2, -1);
        due(6, 7, -2, 1);
        due(6, -7, -2, -1);
        due(6, -8, 2, 0);
        due(6, Wide.MAX, Wide.LEAST, Wide.MAX);
        due(6, Wide.GREATEST, Wide.LEAST, Wide.GREATEST);
        due(6, Wide.LEAST, Wide.GREATEST, Wide.of(-1));
        due(6, Wide.LEAST, Wide.LEAST, Wide.ZERO);
        due(6, Wide.LEAST.add(Wide.ONE), Wide.LEAST, Wide.LEAST.add(Wide.ONE));
        due(6, Wide.LEAST, Wide.of(3), Wide.of(-2));
    }

    private void leastByMinusOne() {
        due(5, Wide.LEAST, Wide.of(-1), Wide.LEAST);
        due(5, Wide.LEAST, Wide.of(-2), Wide.bit(254));
        due(5, Wide.LEAST, Wide.ONE, Wide.LEAST);
        due(5, Wide.LEAST.add(Wide.ONE), Wide.of(-1), Wide.GREATEST);
        due(5, Wide.GREATEST, Wide.of(-1), Wide.LEAST.add(Wide.ONE));
        // Without sign, these are 2^255 and 2^256 - 1.
        due(3, Wide.LEAST, Wide.of(-1), Wide.ZERO);
    }

    private void leastByMinusOneLeavesZero() {
        due(6, Wide.LEAST, Wide.of(-1), Wide.ZERO);
        due(6, Wide.LEAST, Wide.of(-2), Wide.ZERO);
        due(6, Wide.LEAST, Wide.of(-3), Wide.of(-2));
        due(6, Wide.LEAST, Wide.ONE, Wide.ZERO);
        due(6, Wide.LEAST.add(Wide.ONE), Wide.of(-1), Wide.ZERO);
        due(6, Wide.GREATEST, Wide.of(-1), Wide.ZERO);
        due(4, Wide.LEAST, Wide.of(-1), Wide.LEAST);
    }

    private void zeroDivisor(int op) {
        for (BigInteger a : Wide.edges()) {
            due(op, a, Wide.ZERO, Wide.ZERO);
        }
    }

    private void besideZeroDivisor() {
        for (BigInteger a : Wide.edges()) {
            due(3, a, Wide.ONE, a);
            due(4, a, Wide.ONE, Wide.ZERO);
            due(5, a, Wide.ONE, a);
            due(6, a, Wide.ONE, Wide.ZERO);
            due(5, a, Wide.of(-1), Wide.wrapped(a.negate()));
            due(6, a, Wide.of(-1), Wide.ZERO);
            // A divisor of which but one limb is not 0 is not 0.
            due(3, a, Wide.bit(224), a.shiftRight(224));
            due(4, a, Wide.bit(224), a.mod(Wide.bit(224)));
        }
    }

    private void powers() {
        due(7, 3, 5, 243);
        due(7, 10, 3, 1000);
        for (BigInteger a : Wide.edges()) {
            due(7, a, Wide.ZERO, Wide.ONE);
            due(7, a, Wide.ONE, a);
            due(7, a, Wide.of(2), Wide.wrapped(a.multiply(a)));
            due(7, Wide.ONE, a, Wide.ONE);
        }
    }

    private void powersWrap() {
        due(7, Wide.of(2), Wide.of(255), Wide.LEAST);
        due(7, 2, 256, 0);
        due(7, 2, 257, 0);
        due(7, Wide.of(2), Wide.MAX, Wide.ZERO);
        // 3^161 is the last power of 3 below 2^256.
        due(7, Wide.of(3), Wide.of(161), Wide.of(3).pow(161));
        due(7, Wide.of(3), Wide.of(162), Wide.of(3).pow(162).subtract(Wide.ALL));
        due(7, Wide.MAX, Wide.MAX, Wide.MAX);
        due(7, Wide.MAX, Wide.of(2), Wide.ONE);
        due(7, Wide.MAX, Wide.LEAST, Wide.ONE);
        due(7, Wide.LEAST, Wide.of(2), Wide.ZERO);
        // The powers of 3 come round again after 2^254 steps, and no sooner.
        due(7, Wide.of(3), Wide.bit(253), Wide.LEAST.add(Wide.ONE));
        due(7, Wide.of(3), Wide.bit(254), Wide.ONE);
        due(7, Wide.of(3), Wide.LEAST, Wide.ONE);
        due(7, Wide.of(3), Wide.bit(254).add(Wide.of(5)), Wide.of(243));
    }

    private void zeroToZero() {
        due(7, 0, 0, 1);
        due(7, 0, 1, 0);
        due(7, 1, 0, 1);
        due(7, 0, 2, 0);
        due(7, Wide.ZERO, Wide.MAX, Wide.ZERO);
        due(7, Wide.MAX, Wide.ZERO, Wide.ONE);
        for (int seam : SEAMS) {
            due(7, Wide.ZERO, Wide.bit(seam), Wide.ZERO);
        }
    }
}
