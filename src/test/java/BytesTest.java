import java.math.BigInteger;

/** Promise 8: bytes. */
final class BytesTest {
    private final Check check = new Check("promise 8");

    public static void main(String[] args) {
        BytesTest test = new BytesTest();
        Check check = test.check;
        check.sentence("a 0 .. 15", test::registerIsInRange);
        check.sentence("\"0 for 0\"", test::noneForZero);
        check.sentence("\"How many bytes are needed for it\"", test::oneByteMore);
        check.sentence("\"How many bytes are needed for it\", of every length in bits", test::everyLength);
        check.sentence("every register serves", test::everyRegisterServes);
        check.end();
    }

    private void due(BigInteger a, int answer) {
        WideNumbers w = new WideNumbers();
        Wide.put(w, 6, a);
        check.same("bytes of " + a.toString(16), w.bytes(6), answer);
        check.number("the register behind bytes", Wide.read(w, 6), a);
    }

    private void registerIsInRange() {
        check.range("bytes with a", 16, (w, a) -> w.bytes(a));
    }

    private void noneForZero() {
        due(Wide.ZERO, 0);
        due(Wide.ONE, 1);
        due(Wide.MAX, 32);
        WideNumbers w = Wide.filled();
        w.two(15, 6, 6, 6);
        check.same("bytes of a register that became 0", w.bytes(6), 0);
    }

    /** Around 256 to each power. */
    private void oneByteMore() {
        for (int bytes = 1; bytes < 32; bytes++) {
            BigInteger first = Wide.bit(8 * bytes);
            due(first.subtract(Wide.ONE), bytes);
            due(first, bytes + 1);
            due(first.add(Wide.ONE), bytes + 1);
        }
        due(Wide.GREATEST, 32);
        due(Wide.LEAST, 32);
        due(Wide.MAX, 32);
    }

    private void everyLength() {
        for (int bit = 0; bit < 256; bit++) {
            due(Wide.bit(bit), bit / 8 + 1);
            due(Wide.bit(bit + 1).subtract(Wide.ONE), bit / 8 + 1);
        }
    }

    private void everyRegisterServes() {
        for (int r = 0; r < Wide.REGISTERS; r++) {
            WideNumbers w = Wide.filled();
            w.set(r, 0, 0, 1, 0);
            for (int other = 0; other < Wide.REGISTERS; other++) {
                check.same("bytes(" + other + ")", w.bytes(other), other == r ? 9 : Due.bytes(Wide.filling(other)));
            }
        }
    }
}
