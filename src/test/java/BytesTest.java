import java.math.BigInteger;

/** Promise 8: bytes, how many of them a number needs. */
final class BytesTest {
    private final Check check = new Check();

    public static void main(String[] args) {
        BytesTest test = new BytesTest();
        test.knownAnswers();
        test.everyLength();
        test.everyRegisterServes();
        test.outsideIsRefused();
        test.check.end();
    }

    private void due(BigInteger a, int answer) {
        WideNumbers w = new WideNumbers();
        Wide.put(w, 6, a);
        check.same("bytes of " + a.toString(16), w.bytes(6), answer);
        check.number("the register behind bytes", Wide.read(w, 6), a);
    }

    private void knownAnswers() {
        due(Wide.ZERO, 0);
        due(Wide.ONE, 1);
        due(Wide.of(255), 1);
        due(Wide.of(256), 2);
        due(Wide.of(65535), 2);
        due(Wide.of(65536), 3);
        due(Wide.of(0xFFFFFFFFL), 4);
        due(Wide.of(0x100000000L), 5);
        due(Wide.ONE.shiftLeft(64).subtract(Wide.ONE), 8);
        due(Wide.ONE.shiftLeft(64), 9);
        due(Wide.ONE.shiftLeft(248).subtract(Wide.ONE), 31);
        due(Wide.ONE.shiftLeft(248), 32);
        due(Wide.LEAST, 32);
        due(Wide.MAX, 32);
    }

    private void everyLength() {
        for (int bit = 0; bit < 256; bit++) {
            BigInteger lowest = Wide.ONE.shiftLeft(bit);
            due(lowest, bit / 8 + 1);
            due(lowest.shiftLeft(1).subtract(Wide.ONE), bit / 8 + 1);
        }
    }

    private void everyRegisterServes() {
        for (int r = 0; r < Wide.REGISTERS; r++) {
            WideNumbers w = Wide.filled();
            w.set(r, 0, 0, 1, 0);
            for (int other = 0; other < Wide.REGISTERS; other++) {
                check.same("bytes(" + other + ")", w.bytes(other), other == r ? 9 : Due.bytes(Wide.filling(other)));
            }
        }
    }

    private void outsideIsRefused() {
        for (int bad : Wide.OUTSIDE_REGISTERS) {
            check.refused("bytes(" + bad + ")", w -> w.bytes(bad));
        }
    }
}
