import java.math.BigInteger;
import java.util.Random;

/** Promise 6: turn, to 0 - a and to a with each bit the other one. */
final class TurnTest {
    private final Check check = new Check();

    public static void main(String[] args) {
        TurnTest test = new TurnTest();
        test.knownAnswers();
        test.edgesAndAnyNumbers();
        test.everyRegisterServes();
        test.outsideIsRefused();
        test.check.end();
    }

    private void due(BigInteger a, boolean not, BigInteger answer) {
        WideNumbers w = new WideNumbers();
        Wide.put(w, 2, a);
        w.turn(12, 2, not);
        check.number("turn(" + not + ") of " + a.toString(16), Wide.read(w, 12), answer);
    }

    private void knownAnswers() {
        due(Wide.ZERO, false, Wide.ZERO);
        due(Wide.ONE, false, Wide.MAX);
        due(Wide.MAX, false, Wide.ONE);
        due(Wide.LEAST, false, Wide.LEAST);
        due(Wide.of(7), false, Wide.of(-7));
        due(Wide.ZERO, true, Wide.MAX);
        due(Wide.MAX, true, Wide.ZERO);
        due(Wide.ONE, true, Wide.of(-2));
        due(Wide.LEAST, true, Wide.LEAST.subtract(Wide.ONE));
    }

    private void edgesAndAnyNumbers() {
        for (BigInteger n : Wide.edges()) {
            due(n, false, Due.turn(n, false));
            due(n, true, Due.turn(n, true));
        }
        Random random = new Random(6);
        for (int i = 0; i < 1000; i++) {
            BigInteger n = Wide.any(random);
            due(n, i % 2 == 0, Due.turn(n, i % 2 == 0));
        }
    }

    private void everyRegisterServes() {
        for (int to = 0; to < Wide.REGISTERS; to++) {
            for (int a = 0; a < Wide.REGISTERS; a++) {
                oneCall(to, a, false);
                oneCall(to, a, true);
            }
        }
    }

    private void oneCall(int to, int a, boolean not) {
        WideNumbers w = Wide.filled();
        w.turn(to, a, not);
        for (int r = 0; r < Wide.REGISTERS; r++) {
            BigInteger due = r == to ? Due.turn(Wide.filling(a), not) : Wide.filling(r);
            check.number("register " + r + " behind turn(" + to + ", " + a + ", " + not + ")", Wide.read(w, r), due);
        }
    }

    private void outsideIsRefused() {
        for (int bad : Wide.OUTSIDE_REGISTERS) {
            for (boolean not : new boolean[] {false, true}) {
                check.refused("turn(" + bad + ", 1, " + not + ")", w -> w.turn(bad, 1, not));
                check.refused("turn(0, " + bad + ", " + not + ")", w -> w.turn(0, bad, not));
            }
        }
    }
}
