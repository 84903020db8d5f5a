import java.math.BigInteger;
import java.util.List;
import java.util.Random;

/** Promise 4: two, as far as it is the same for every operation, and each one beside BigInteger. */
final class TwoTest extends TwoOf {
    public static void main(String[] args) {
        TwoTest test = new TwoTest();
        Check check = test.check;
        check.sentence("op 0 .. 15", test::operationIsInRange);
        check.sentence("to 0 .. 15", test::targetIsInRange);
        check.sentence("a 0 .. 15", test::firstIsInRange);
        check.sentence("b 0 .. 15", test::secondIsInRange);
        check.sentence("\"REGISTER to is that\", and no other changes", test::everyRegisterServes);
        check.sentence("\"it may be a\", as it was", test::targetMayBeFirst);
        check.sentence("\"it may be b\", as it was", test::targetMayBeSecond);
        check.sentence("\"it may be a or b\", a and b the same", test::allMayBeTheSame);
        check.sentence("every op with numbers at the edges", test::edgesWithEachOther);
        check.sentence("every op with any numbers", test::anyNumbers);
        check.end();
    }

    private void operationIsInRange() {
        check.range("two with op", 16, (w, op) -> w.two(op, 1, 2, 3));
    }

    private void targetIsInRange() {
        for (int op = 0; op < 16; op++) {
            int good = op;
            check.range("two(" + op + ") with to", 16, (w, to) -> w.two(good, to, 2, 3));
        }
    }

    private void firstIsInRange() {
        for (int op = 0; op < 16; op++) {
            int good = op;
            check.range("two(" + op + ") with a", 16, (w, a) -> w.two(good, 1, a, 3));
        }
    }

    private void secondIsInRange() {
        for (int op = 0; op < 16; op++) {
            int good = op;
            check.range("two(" + op + ") with b", 16, (w, b) -> w.two(good, 1, 2, b));
        }
    }

    private void everyRegisterServes() {
        for (int to = 0; to < Wide.REGISTERS; to++) {
            for (int a = 0; a < Wide.REGISTERS; a++) {
                for (int b = 0; b < Wide.REGISTERS; b++) {
                    oneCall((to + a + b) % 16, to, a, b);
                }
            }
        }
    }

    private void targetMayBeFirst() {
        for (int op = 0; op < 16; op++) {
            oneCall(op, 5, 5, 6);
            oneCall(op, 0, 0, 15);
            ownOperand(op, true);
        }
    }

    private void targetMayBeSecond() {
        for (int op = 0; op < 16; op++) {
            oneCall(op, 6, 5, 6);
            oneCall(op, 15, 0, 15);
            ownOperand(op, false);
        }
    }

    private void allMayBeTheSame() {
        for (int op = 0; op < 16; op++) {
            oneCall(op, 7, 5, 5);
            for (int r = 0; r < Wide.REGISTERS; r++) {
                oneCall(op, r, r, r);
            }
        }
    }

    private void oneCall(int op, int to, int a, int b) {
        WideNumbers w = Wide.filled();
        w.two(op, to, a, b);
        for (int r = 0; r < Wide.REGISTERS; r++) {
            BigInteger due = r == to ? Due.two(op, Wide.filling(a), Wide.filling(b)) : Wide.filling(r);
            check.number("register " + r + " behind two(" + op + ", " + to + ", " + a + ", " + b + ")", Wide.read(w, r), due);
        }
    }

    /** With numbers small enough to be a shift, a place and a divisor: the fillings are all too large for it. */
    private void ownOperand(int op, boolean first) {
        for (int n : new int[] {0, 1, 2, 3, 30, 31, 32, 33, 255, 256}) {
            BigInteger a = Wide.of(n);
            BigInteger[] others = {Wide.MIXED, Wide.of(-7), Wide.of(3), Wide.ZERO, Wide.LEAST};
            for (BigInteger b : others) {
                WideNumbers w = new WideNumbers();
                Wide.put(w, 0, a);
                Wide.put(w, 1, b);
                int to = first ? 0 : 1;
                w.two(op, to, 0, 1);
                String what = "two(" + op + ", " + to + ", 0, 1) of " + a.toString(16) + " and " + b.toString(16);
                check.number(what, Wide.read(w, to), Due.two(op, a, b));
                check.number(what + ": the other operand", Wide.read(w, 1 - to), first ? b : a);
            }
        }
    }

    private void edgesWithEachOther() {
        List<BigInteger> edges = Wide.edges();
        for (int op = 0; op < 16; op++) {
            for (BigInteger a : edges) {
                for (BigInteger b : edges) {
                    due(op, a, b, Due.two(op, a, b));
                }
            }
        }
    }

    private void anyNumbers() {
        Random random = new Random(4);
        for (int i = 0; i < 20000; i++) {
            BigInteger a = Wide.any(random);
            BigInteger b = Wide.any(random);
            int op = i % 16;
            due(op, a, b, Due.two(op, a, b));
        }
    }
}
