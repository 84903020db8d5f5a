import java.math.BigInteger;
import java.util.Random;

/** Promise 7: compare, with and without sign. */
final class CompareTest {
    private final Check check = new Check();

    public static void main(String[] args) {
        CompareTest test = new CompareTest();
        test.knownAnswers();
        test.edgesAndAnyNumbers();
        test.everyRegisterServes();
        test.outsideIsRefused();
        test.check.end();
    }

    private void due(BigInteger a, BigInteger b, boolean sign, int answer) {
        WideNumbers w = new WideNumbers();
        Wide.put(w, 10, a);
        Wide.put(w, 1, b);
        String what = "compare(" + sign + ") of " + a.toString(16) + " and " + b.toString(16);
        check.same(what, w.compare(10, 1, sign), answer);
        check.same(what + " with itself", w.compare(10, 10, sign), 0);
        check.number(what + ": a behind it", Wide.read(w, 10), a);
        check.number(what + ": b behind it", Wide.read(w, 1), b);
    }

    private void knownAnswers() {
        due(Wide.of(2), Wide.of(3), false, -1);
        due(Wide.of(3), Wide.of(2), false, 1);
        due(Wide.of(3), Wide.of(3), false, 0);
        due(Wide.MAX, Wide.ZERO, false, 1);
        due(Wide.MAX, Wide.ZERO, true, -1);
        due(Wide.ZERO, Wide.MAX, true, 1);
        due(Wide.LEAST, Wide.MAX, true, -1);
        due(Wide.LEAST, Wide.LEAST.subtract(Wide.ONE), true, -1);
        due(Wide.LEAST, Wide.LEAST.subtract(Wide.ONE), false, 1);
        due(Wide.of(-2), Wide.of(-1), true, -1);
        due(Wide.of(-1), Wide.of(-2), true, 1);
        due(Wide.LEAST, Wide.LEAST, true, 0);
        due(Wide.ONE.shiftLeft(63), Wide.ONE, false, 1);
        due(Wide.ONE.shiftLeft(63), Wide.ONE, true, 1);
    }

    private void edgesAndAnyNumbers() {
        for (BigInteger a : Wide.edges()) {
            for (BigInteger b : Wide.edges()) {
                due(a, b, false, Due.compare(a, b, false));
                due(a, b, true, Due.compare(a, b, true));
            }
        }
        Random random = new Random(7);
        for (int i = 0; i < 2000; i++) {
            BigInteger a = Wide.any(random);
            BigInteger b = i % 4 == 0 ? a.flipBit(random.nextInt(256)) : Wide.any(random);
            due(a, b, i % 2 == 0, Due.compare(a, b, i % 2 == 0));
        }
    }

    private void everyRegisterServes() {
        for (int a = 0; a < Wide.REGISTERS; a++) {
            for (int b = 0; b < Wide.REGISTERS; b++) {
                WideNumbers w = Wide.filled();
                for (boolean sign : new boolean[] {false, true}) {
                    check.same("compare(" + a + ", " + b + ", " + sign + ")", w.compare(a, b, sign),
                        Due.compare(Wide.filling(a), Wide.filling(b), sign));
                }
            }
        }
    }

    private void outsideIsRefused() {
        for (int bad : Wide.OUTSIDE_REGISTERS) {
            for (boolean sign : new boolean[] {false, true}) {
                check.refused("compare(" + bad + ", 1, " + sign + ")", w -> w.compare(bad, 1, sign));
                check.refused("compare(0, " + bad + ", " + sign + ")", w -> w.compare(0, bad, sign));
            }
        }
    }
}
