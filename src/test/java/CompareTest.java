import java.math.BigInteger;
import java.util.Random;

/** Promise 7: compare. */
final class CompareTest {
    private final Check check = new Check("promise 7");

    public static void main(String[] args) {
        CompareTest test = new CompareTest();
        Check check = test.check;
        check.sentence("a 0 .. 15", test::firstIsInRange);
        check.sentence("b 0 .. 15", test::secondIsInRange);
        check.sentence("\"-1 .. a is less\"", test::less);
        check.sentence("\"0 .. the same\"", test::same);
        check.sentence("\"1 .. greater than b\"", test::greater);
        check.sentence("\"WITH SIGN, if sign\"", test::withSign);
        check.sentence("\"WITH SIGN, if sign\", not else", test::withoutSign);
        check.sentence("every bit counts", test::everyBitCounts);
        check.sentence("every register serves", test::everyRegisterServes);
        check.sentence("numbers at the edges and any numbers", test::edgesAndAnyNumbers);
        check.end();
    }

    private void due(BigInteger a, BigInteger b, boolean sign, int answer) {
        WideNumbers w = new WideNumbers();
        Wide.put(w, 10, a);
        Wide.put(w, 1, b);
        String what = "compare(" + sign + ") of " + a.toString(16) + " and " + b.toString(16);
        check.same(what, w.compare(10, 1, sign), answer);
        check.number(what + ": a behind it", Wide.read(w, 10), a);
        check.number(what + ": b behind it", Wide.read(w, 1), b);
    }

    private void dueBoth(BigInteger a, BigInteger b, int answer) {
        due(a, b, false, answer);
        due(a, b, true, answer);
    }

    private void firstIsInRange() {
        for (boolean sign : Wide.BOTH) {
            check.range("compare(" + sign + ") with a", 16, (w, a) -> w.compare(a, 1, sign));
        }
    }

    private void secondIsInRange() {
        for (boolean sign : Wide.BOTH) {
            check.range("compare(" + sign + ") with b", 16, (w, b) -> w.compare(0, b, sign));
        }
    }

    private void less() {
        dueBoth(Wide.of(2), Wide.of(3), -1);
        dueBoth(Wide.ZERO, Wide.ONE, -1);
        dueBoth(Wide.ZERO, Wide.GREATEST, -1);
        dueBoth(Wide.GREATEST.subtract(Wide.ONE), Wide.GREATEST, -1);
        dueBoth(Wide.LEAST, Wide.LEAST.add(Wide.ONE), -1);
        dueBoth(Wide.MAX.subtract(Wide.ONE), Wide.MAX, -1);
        dueBoth(Wide.LEAST, Wide.MAX, -1);
    }

    private void same() {
        for (BigInteger n : Wide.edges()) {
            dueBoth(n, n, 0);
            WideNumbers w = new WideNumbers();
            Wide.put(w, 10, n);
            check.same("compare a register with itself", w.compare(10, 10, false), 0);
            check.same("compare a register with itself, with sign", w.compare(10, 10, true), 0);
        }
    }

    private void greater() {
        dueBoth(Wide.of(3), Wide.of(2), 1);
        dueBoth(Wide.ONE, Wide.ZERO, 1);
        dueBoth(Wide.GREATEST, Wide.ZERO, 1);
        dueBoth(Wide.GREATEST, Wide.GREATEST.subtract(Wide.ONE), 1);
        dueBoth(Wide.LEAST.add(Wide.ONE), Wide.LEAST, 1);
        dueBoth(Wide.MAX, Wide.MAX.subtract(Wide.ONE), 1);
        dueBoth(Wide.MAX, Wide.LEAST, 1);
    }

    private void withSign() {
        due(Wide.LEAST, Wide.GREATEST, true, -1);
        due(Wide.GREATEST, Wide.LEAST, true, 1);
        due(Wide.MAX, Wide.ZERO, true, -1);
        due(Wide.ZERO, Wide.MAX, true, 1);
        due(Wide.MAX, Wide.ONE, true, -1);
        due(Wide.LEAST, Wide.ZERO, true, -1);
        due(Wide.ZERO, Wide.LEAST, true, 1);
        due(Wide.of(-2), Wide.of(-1), true, -1);
        due(Wide.of(-1), Wide.of(-2), true, 1);
        due(Wide.of(-2), Wide.of(2), true, -1);
    }

    private void withoutSign() {
        due(Wide.LEAST, Wide.GREATEST, false, 1);
        due(Wide.GREATEST, Wide.LEAST, false, -1);
        due(Wide.MAX, Wide.ZERO, false, 1);
        due(Wide.ZERO, Wide.MAX, false, -1);
        due(Wide.MAX, Wide.ONE, false, 1);
        due(Wide.LEAST, Wide.ZERO, false, 1);
        due(Wide.ZERO, Wide.LEAST, false, -1);
        due(Wide.of(-2), Wide.of(2), false, 1);
    }

    /** Below bit 255 the higher bit decides, whatever the lower ones are. */
    private void everyBitCounts() {
        for (int place = 0; place < 255; place++) {
            BigInteger bit = Wide.bit(place);
            dueBoth(bit, bit.subtract(Wide.ONE), 1);
            dueBoth(bit.subtract(Wide.ONE), bit, -1);
            dueBoth(Wide.MAX.clearBit(place), Wide.MAX, -1);
            dueBoth(Wide.MAX, Wide.MAX.clearBit(place), 1);
        }
    }

    private void edgesAndAnyNumbers() {
        for (BigInteger a : Wide.edges()) {
            for (BigInteger b : Wide.edges()) {
                due(a, b, false, Due.compare(a, b, false));
                due(a, b, true, Due.compare(a, b, true));
            }
        }
        Random random = new Random(7);
        for (int i = 0; i < 2000; i++) {
            BigInteger a = Wide.any(random);
            BigInteger b = i % 4 == 0 ? a.flipBit(random.nextInt(256)) : Wide.any(random);
            due(a, b, i % 2 == 0, Due.compare(a, b, i % 2 == 0));
        }
    }

    private void everyRegisterServes() {
        for (int a = 0; a < Wide.REGISTERS; a++) {
            for (int b = 0; b < Wide.REGISTERS; b++) {
                WideNumbers w = Wide.filled();
                for (boolean sign : Wide.BOTH) {
                    check.same("compare(" + a + ", " + b + ", " + sign + ")", w.compare(a, b, sign),
                        Due.compare(Wide.filling(a), Wide.filling(b), sign));
                }
            }
        }
    }
}
