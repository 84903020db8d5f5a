import java.math.BigInteger;

/** Promise 2: set. */
final class SetTest {
    private static final long[] PARTS_AT_EDGES = {0, 1, -1, Long.MIN_VALUE, Long.MIN_VALUE + 1, Long.MAX_VALUE,
        0x7FFFFFFFL, 0x80000000L, 0xFFFFFFFFL, 0x100000000L, 0xFFFFFFFF00000000L};

    private final Check check = new Check("promise 2");

    public static void main(String[] args) {
        SetTest test = new SetTest();
        test.check.sentence("\"r 0 .. 15\"", test::registerIsInRange);
        test.check.sentence("\"REGISTER r has these PARTS\"", test::partsStandWhereTheyWereSet);
        test.check.sentence("\"these PARTS\", any of 64 bits", test::everyPartTakesAnyLong);
        test.check.sentence("\"has these PARTS\", and nothing of what it had", test::formerPartsAreGone);
        test.check.sentence("\"REGISTER r\", and no other", test::onlyOneRegisterChanges);
        test.check.sentence("numbers at the edges are held", test::everyEdgeIsHeld);
        test.check.end();
    }

    private void registerIsInRange() {
        check.range("set with r", 16, (w, r) -> w.set(r, 1, 2, 3, 4));
    }

    private void partsStandWhereTheyWereSet() {
        for (int r = 0; r < Wide.REGISTERS; r++) {
            WideNumbers w = new WideNumbers();
            w.set(r, 0x8000000000000001L, -2L, 0x00000000FFFFFFFFL, 0xFFFFFFFF00000000L);
            String name = "register " + r;
            check.same(name + " part 0", w.get(r, 0), 0x8000000000000001L);
            check.same(name + " part 1", w.get(r, 1), -2L);
            check.same(name + " part 2", w.get(r, 2), 0x00000000FFFFFFFFL);
            check.same(name + " part 3", w.get(r, 3), 0xFFFFFFFF00000000L);
        }
    }

    private void everyPartTakesAnyLong() {
        for (int part = 0; part < 4; part++) {
            for (long bits : PARTS_AT_EDGES) {
                onePart(part, bits, 0L);
                onePart(part, bits, -1L);
            }
        }
    }

    private void onePart(int part, long bits, long others) {
        long[] parts = {others, others, others, others};
        parts[part] = bits;
        WideNumbers w = new WideNumbers();
        w.set(7, parts[0], parts[1], parts[2], parts[3]);
        for (int i = 0; i < 4; i++) {
            check.same("part " + i + " with " + bits + " set as part " + part, w.get(7, i), parts[i]);
        }
    }

    private void formerPartsAreGone() {
        WideNumbers w = new WideNumbers();
        w.set(15, -1, -1, -1, -1);
        w.set(15, 0, 0, 0, 0);
        check.number("register 15, first all bits, then none", Wide.read(w, 15), Wide.ZERO);
        w.set(15, 1, 0, 4, 0);
        w.set(15, 0, 2, 0, 8);
        check.number("register 15, set twice", Wide.read(w, 15), Wide.bit(129).add(Wide.of(8)));
    }

    private void onlyOneRegisterChanges() {
        for (int changed = 0; changed < Wide.REGISTERS; changed++) {
            WideNumbers w = Wide.filled();
            w.set(changed, 0, 0, 0, 5);
            for (int r = 0; r < Wide.REGISTERS; r++) {
                BigInteger due = r == changed ? Wide.of(5) : Wide.filling(r);
                check.number("register " + r + " behind set(" + changed + ")", Wide.read(w, r), due);
            }
        }
    }

    private void everyEdgeIsHeld() {
        for (BigInteger n : Wide.edges()) {
            WideNumbers w = new WideNumbers();
            Wide.put(w, 9, n);
            check.number("register 9", Wide.read(w, 9), n);
        }
    }
}
