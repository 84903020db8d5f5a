import java.math.BigInteger;
import java.util.List;
import java.util.Random;

/** Promise 5: modular, of the whole sum or product. */
final class ModularTest {
    private final Check check = new Check();

    public static void main(String[] args) {
        ModularTest test = new ModularTest();
        test.knownAnswers();
        test.edgesWithEachOther();
        test.anyNumbers();
        test.targetMayBeAnOperand();
        test.outsideIsRefused();
        test.check.end();
    }

    private void due(BigInteger a, BigInteger b, BigInteger c, boolean times, BigInteger answer) {
        WideNumbers w = new WideNumbers();
        Wide.put(w, 3, a);
        Wide.put(w, 8, b);
        Wide.put(w, 13, c);
        w.modular(1, 3, 8, 13, times);
        String what = "modular(" + times + ") of " + a.toString(16) + ", " + b.toString(16) + ", " + c.toString(16);
        check.number(what, Wide.read(w, 1), answer);
        check.number(what + ": c behind it", Wide.read(w, 13), c);
    }

    private void knownAnswers() {
        due(Wide.of(5), Wide.of(6), Wide.of(7), false, Wide.of(4));
        due(Wide.of(5), Wide.of(6), Wide.of(7), true, Wide.of(2));
        due(Wide.MAX, Wide.MAX, Wide.MAX, false, Wide.ZERO);
        due(Wide.MAX, Wide.ONE, Wide.MAX, false, Wide.ONE);
        due(Wide.MAX, Wide.ONE, Wide.LEAST, false, Wide.ZERO);
        due(Wide.MAX, Wide.MAX, Wide.of(-2), false, Wide.of(2));
        due(Wide.MAX, Wide.MAX, Wide.of(-2), true, Wide.ONE);
        due(Wide.MAX, Wide.MAX, Wide.MAX, true, Wide.ZERO);
        // 2^256 mod 7 is 2: a sum or product that wraps first would leave another number.
        due(Wide.MAX, Wide.ONE, Wide.of(7), false, Wide.of(2));
        due(Wide.LEAST, Wide.of(2), Wide.of(7), true, Wide.of(2));
        for (BigInteger n : Wide.edges()) {
            due(n, n, Wide.ZERO, false, Wide.ZERO);
            due(n, n, Wide.ZERO, true, Wide.ZERO);
            due(n, n, Wide.ONE, false, Wide.ZERO);
            due(n, n, Wide.ONE, true, Wide.ZERO);
        }
    }

    private void edgesWithEachOther() {
        List<BigInteger> edges = Wide.edges();
        for (int i = 0; i < edges.size(); i++) {
            for (int j = 0; j < edges.size(); j += 3) {
                for (int k = 0; k < edges.size(); k += 2) {
                    compareBoth(edges.get(i), edges.get(j), edges.get(k));
                }
            }
        }
    }

    private void anyNumbers() {
        Random random = new Random(5);
        for (int i = 0; i < 5000; i++) {
            compareBoth(Wide.any(random), Wide.any(random), Wide.any(random));
        }
    }

    private void compareBoth(BigInteger a, BigInteger b, BigInteger c) {
        due(a, b, c, false, Due.modular(a, b, c, false));
        due(a, b, c, true, Due.modular(a, b, c, true));
    }

    private void targetMayBeAnOperand() {
        int[] places = {0, 5, 14, 15};
        for (int to : places) {
            for (int a : places) {
                for (int b : places) {
                    for (int c : places) {
                        oneCall(to, a, b, c, true);
                        oneCall(to, a, b, c, false);
                    }
                }
            }
        }
    }

    private void oneCall(int to, int a, int b, int c, boolean times) {
        WideNumbers w = Wide.filled();
        w.modular(to, a, b, c, times);
        for (int r = 0; r < Wide.REGISTERS; r++) {
            BigInteger due = r == to
                ? Due.modular(Wide.filling(a), Wide.filling(b), Wide.filling(c), times) : Wide.filling(r);
            check.number("register " + r + " behind modular(" + to + ", " + a + ", " + b + ", " + c + ", " + times + ")",
                Wide.read(w, r), due);
        }
    }

    private void outsideIsRefused() {
        for (int bad : Wide.OUTSIDE_REGISTERS) {
            for (boolean times : new boolean[] {false, true}) {
                check.refused("modular(" + bad + ", 1, 2, 3)", w -> w.modular(bad, 1, 2, 3, times));
                check.refused("modular(0, " + bad + ", 2, 3)", w -> w.modular(0, bad, 2, 3, times));
                check.refused("modular(0, 1, " + bad + ", 3)", w -> w.modular(0, 1, bad, 3, times));
                check.refused("modular(0, 1, 2, " + bad + ")", w -> w.modular(0, 1, 2, bad, times));
            }
        }
    }
}
