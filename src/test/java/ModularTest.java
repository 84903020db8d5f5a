import java.math.BigInteger;
import java.util.List;
import java.util.Random;

/** Promise 5: modular. */
final class ModularTest {
    private final Check check = new Check("promise 5");

    public static void main(String[] args) {
        ModularTest test = new ModularTest();
        Check check = test.check;
        check.sentence("to 0 .. 15", test::targetIsInRange);
        check.sentence("a 0 .. 15", test::firstIsInRange);
        check.sentence("b 0 .. 15", test::secondIsInRange);
        check.sentence("c 0 .. 15", test::thirdIsInRange);
        check.sentence("\"(a + b) mod c\"", test::sums);
        check.sentence("\"of the whole sum\"", test::wholeSums);
        check.sentence("\"times: (a b) mod c\"", test::products);
        check.sentence("\"of the whole .. product\"", test::wholeProducts);
        check.sentence("\"0 if c is 0\": of a sum", () -> test.zeroModulus(false));
        check.sentence("\"0 if c is 0\": of a product", () -> test.zeroModulus(true));
        check.sentence("\"0 if c is 0\": c 1, 2 and the highest are not 0", test::besideZeroModulus);
        check.sentence("\"REGISTER to is\" that, a, b or c too, and no other changes", test::targetMayBeAnOperand);
        check.sentence("numbers at the edges", test::edgesWithEachOther);
        check.sentence("any numbers", test::anyNumbers);
        check.end();
    }

    /** On a new object and on a used one: a sum behind a product must not find its upper half. */
    private void due(BigInteger a, BigInteger b, BigInteger c, boolean times, BigInteger answer) {
        dueOn(new WideNumbers(), a, b, c, times, answer);
        dueOn(Wide.used(), a, b, c, times, answer);
    }

    private void dueOn(WideNumbers w, BigInteger a, BigInteger b, BigInteger c, boolean times, BigInteger answer) {
        Wide.put(w, 3, a);
        Wide.put(w, 8, b);
        Wide.put(w, 11, c);
        w.modular(1, 3, 8, 11, times);
        String what = "modular(" + times + ") of " + a.toString(16) + ", " + b.toString(16) + ", " + c.toString(16);
        check.number(what, Wide.read(w, 1), answer);
        check.number(what + ": a behind it", Wide.read(w, 3), a);
        check.number(what + ": b behind it", Wide.read(w, 8), b);
        check.number(what + ": c behind it", Wide.read(w, 11), c);
    }

    private void due(long a, long b, long c, boolean times, long answer) {
        due(Wide.of(a), Wide.of(b), Wide.of(c), times, Wide.of(answer));
    }

    private void targetIsInRange() {
        for (boolean times : Wide.BOTH) {
            check.range("modular(" + times + ") with to", 16, (w, to) -> w.modular(to, 1, 2, 3, times));
        }
    }

    private void firstIsInRange() {
        for (boolean times : Wide.BOTH) {
            check.range("modular(" + times + ") with a", 16, (w, a) -> w.modular(0, a, 2, 3, times));
        }
    }

    private void secondIsInRange() {
        for (boolean times : Wide.BOTH) {
            check.range("modular(" + times + ") with b", 16, (w, b) -> w.modular(0, 1, b, 3, times));
        }
    }

    private void thirdIsInRange() {
        for (boolean times : Wide.BOTH) {
            check.range("modular(" + times + ") with c", 16, (w, c) -> w.modular(0, 1, 2, c, times));
        }
    }

    private void sums() {
        due(5, 6, 7, false, 4);
        due(2, 4, 7, false, 6);
        due(3, 4, 7, false, 0);
        due(4, 4, 7, false, 1);
        due(0, 0, 7, false, 0);
        due(Wide.MAX.subtract(Wide.of(2)), Wide.ONE, Wide.MAX, false, Wide.of(-2));
        due(Wide.MAX.subtract(Wide.ONE), Wide.ONE, Wide.MAX, false, Wide.ZERO);
        due(Wide.LEAST, Wide.GREATEST, Wide.LEAST, false, Wide.GREATEST);
    }

    /** 2^256 is 1 modulo 2^256 - 1 and 2 modulo 7: a sum that wraps first leaves another number. */
    private void wholeSums() {
        due(Wide.MAX, Wide.ZERO, Wide.of(7), false, Wide.ONE);
        due(Wide.MAX, Wide.ONE, Wide.of(7), false, Wide.of(2));
        due(Wide.MAX, Wide.of(2), Wide.of(7), false, Wide.of(3));
        due(Wide.LEAST, Wide.LEAST, Wide.of(7), false, Wide.of(2));
        due(Wide.MAX, Wide.ZERO, Wide.MAX, false, Wide.ZERO);
        due(Wide.MAX, Wide.ONE, Wide.MAX, false, Wide.ONE);
        due(Wide.MAX, Wide.of(2), Wide.MAX, false, Wide.of(2));
        due(Wide.MAX, Wide.MAX, Wide.MAX, false, Wide.ZERO);
        due(Wide.MAX, Wide.MAX, Wide.of(-2), false, Wide.of(2));
        due(Wide.MAX, Wide.MAX, Wide.LEAST, false, Wide.of(2).negate().mod(Wide.LEAST));
        // What is kept at a step of the division may need one bit more than a number has.
        due(Wide.MAX, Wide.MAX, Wide.LEAST.add(Wide.ONE), false, Wide.GREATEST.subtract(Wide.of(4)));
    }

    private void products() {
        due(5, 6, 7, true, 2);
        due(2, 3, 7, true, 6);
        due(7, 1, 7, true, 0);
        due(2, 4, 7, true, 1);
        due(0, 5, 7, true, 0);
        due(5, 0, 7, true, 0);
        due(Wide.bit(128).subtract(Wide.ONE), Wide.bit(128).add(Wide.ONE), Wide.MAX, true, Wide.ZERO);
        due(Wide.MAX, Wide.ONE, Wide.LEAST, true, Wide.GREATEST);
    }

    private void wholeProducts() {
        due(Wide.bit(128), Wide.bit(128), Wide.of(7), true, Wide.of(2));
        due(Wide.LEAST, Wide.of(2), Wide.of(7), true, Wide.of(2));
        due(Wide.bit(128), Wide.bit(128), Wide.MAX, true, Wide.ONE);
        due(Wide.bit(128), Wide.bit(128).add(Wide.ONE), Wide.MAX, true, Wide.bit(128).add(Wide.ONE));
        due(Wide.MAX, Wide.MAX, Wide.MAX, true, Wide.ZERO);
        due(Wide.of(-2), Wide.of(-2), Wide.MAX, true, Wide.ONE);
        due(Wide.MAX, Wide.MAX, Wide.of(-2), true, Wide.ONE);
        due(Wide.MAX, Wide.MAX, Wide.LEAST, true, Wide.ONE);
        // 2^510 by 2^255 leaves nothing; a bit more of each, and a bit is left.
        due(Wide.LEAST, Wide.LEAST, Wide.LEAST, true, Wide.ZERO);
        due(Wide.LEAST.add(Wide.ONE), Wide.LEAST.add(Wide.ONE), Wide.LEAST, true, Wide.ONE);
    }

    private void zeroModulus(boolean times) {
        for (BigInteger a : Wide.edges()) {
            due(a, Wide.ZERO, Wide.ZERO, times, Wide.ZERO);
            due(a, Wide.ONE, Wide.ZERO, times, Wide.ZERO);
            due(a, a, Wide.ZERO, times, Wide.ZERO);
            due(a, Wide.MAX, Wide.ZERO, times, Wide.ZERO);
        }
    }

    private void besideZeroModulus() {
        for (BigInteger a : Wide.edges()) {
            due(a, a, Wide.ONE, false, Wide.ZERO);
            due(a, a, Wide.ONE, true, Wide.ZERO);
            due(a, Wide.ONE, Wide.of(2), false, a.testBit(0) ? Wide.ZERO : Wide.ONE);
            due(a, a, Wide.of(2), true, a.testBit(0) ? Wide.ONE : Wide.ZERO);
            due(a, Wide.ZERO, Wide.MAX, false, a.mod(Wide.MAX));
            due(a, Wide.ONE, Wide.MAX, true, a.mod(Wide.MAX));
        }
    }

    private void edgesWithEachOther() {
        List<BigInteger> edges = Wide.edges();
        for (int i = 0; i < edges.size(); i++) {
            for (int j = 0; j < edges.size(); j += 3) {
                for (int k = 0; k < edges.size(); k += 2) {
                    compareBoth(edges.get(i), edges.get(j), edges.get(k));
                }
            }
        }
    }

    private void anyNumbers() {
        Random random = new Random(5);
        for (int i = 0; i < 5000; i++) {
            compareBoth(Wide.any(random), Wide.any(random), Wide.any(random));
        }
    }

    private void compareBoth(BigInteger a, BigInteger b, BigInteger c) {
        due(a, b, c, false, Due.modular(a, b, c, false));
        due(a, b, c, true, Due.modular(a, b, c, true));
    }

    private void targetMayBeAnOperand() {
        int[] places = {0, 5, 14, 15};
        for (int to : places) {
            for (int a : places) {
                for (int b : places) {
                    for (int c : places) {
                        oneCall(to, a, b, c, true);
                        oneCall(to, a, b, c, false);
                    }
                }
            }
        }
    }

    private void oneCall(int to, int a, int b, int c, boolean times) {
        WideNumbers w = Wide.filled();
        w.modular(to, a, b, c, times);
        for (int r = 0; r < Wide.REGISTERS; r++) {
            BigInteger due = r == to
                ? Due.modular(Wide.filling(a), Wide.filling(b), Wide.filling(c), times) : Wide.filling(r);
            check.number("register " + r + " behind modular(" + to + ", " + a + ", " + b + ", " + c + ", " + times + ")",
                Wide.read(w, r), due);
        }
    }
}
