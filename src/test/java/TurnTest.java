import java.math.BigInteger;
import java.util.Random;

/** Promise 6: turn. */
final class TurnTest {
    private final Check check = new Check("promise 6");

    public static void main(String[] args) {
        TurnTest test = new TurnTest();
        Check check = test.check;
        check.sentence("to 0 .. 15", test::targetIsInRange);
        check.sentence("a 0 .. 15", test::sourceIsInRange);
        check.sentence("\"0 - a\"", test::negated);
        check.sentence("\"not: a with each bit the other one\"", test::inverted);
        check.sentence("\"REGISTER to is\" that, a too, and no other changes", test::everyRegisterServes);
        check.sentence("numbers at the edges and any numbers", test::edgesAndAnyNumbers);
        check.end();
    }

    private void due(BigInteger a, boolean not, BigInteger answer) {
        WideNumbers w = new WideNumbers();
        Wide.put(w, 2, a);
        w.turn(12, 2, not);
        check.number("turn(" + not + ") of " + a.toString(16), Wide.read(w, 12), answer);
        check.number("a behind it", Wide.read(w, 2), a);
    }

    private void targetIsInRange() {
        for (boolean not : Wide.BOTH) {
            check.range("turn(" + not + ") with to", 16, (w, to) -> w.turn(to, 1, not));
        }
    }

    private void sourceIsInRange() {
        for (boolean not : Wide.BOTH) {
            check.range("turn(" + not + ") with a", 16, (w, a) -> w.turn(0, a, not));
        }
    }

    private void negated() {
        due(Wide.ZERO, false, Wide.ZERO);
        due(Wide.ONE, false, Wide.MAX);
        due(Wide.of(2), false, Wide.of(-2));
        due(Wide.MAX, false, Wide.ONE);
        due(Wide.of(-2), false, Wide.of(2));
        due(Wide.LEAST, false, Wide.LEAST);
        due(Wide.GREATEST, false, Wide.LEAST.add(Wide.ONE));
        due(Wide.LEAST.add(Wide.ONE), false, Wide.GREATEST);
        for (int place = 0; place < 256; place++) {
            BigInteger bit = Wide.bit(place);
            due(bit, false, Wide.ALL.subtract(bit));
            due(Wide.wrapped(bit.add(Wide.ONE)), false, Wide.MAX.subtract(bit));
        }
    }

    private void inverted() {
        due(Wide.ZERO, true, Wide.MAX);
        due(Wide.MAX, true, Wide.ZERO);
        due(Wide.ONE, true, Wide.of(-2));
        due(Wide.of(-2), true, Wide.ONE);
        due(Wide.LEAST, true, Wide.GREATEST);
        due(Wide.GREATEST, true, Wide.LEAST);
        for (int place = 0; place < 256; place++) {
            due(Wide.bit(place), true, Wide.MAX.clearBit(place));
            due(Wide.MAX.clearBit(place), true, Wide.bit(place));
        }
    }

    private void edgesAndAnyNumbers() {
        for (BigInteger n : Wide.edges()) {
            due(n, false, Due.turn(n, false));
            due(n, true, Due.turn(n, true));
        }
        Random random = new Random(6);
        for (int i = 0; i < 1000; i++) {
            BigInteger n = Wide.any(random);
            due(n, i % 2 == 0, Due.turn(n, i % 2 == 0));
        }
    }

    private void everyRegisterServes() {
        for (int to = 0; to < Wide.REGISTERS; to++) {
            for (int a = 0; a < Wide.REGISTERS; a++) {
                oneCall(to, a, false);
                oneCall(to, a, true);
            }
        }
    }

    private void oneCall(int to, int a, boolean not) {
        WideNumbers w = Wide.filled();
        w.turn(to, a, not);
        for (int r = 0; r < Wide.REGISTERS; r++) {
            BigInteger due = r == to ? Due.turn(Wide.filling(a), not) : Wide.filling(r);
            check.number("register " + r + " behind turn(" + to + ", " + a + ", " + not + ")", Wide.read(w, r), due);
        }
    }
}
