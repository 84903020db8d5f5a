/** Promise 3: get. */
final class GetTest {
    private final Check check = new Check("promise 3");

    public static void main(String[] args) {
        GetTest test = new GetTest();
        test.check.sentence("\"REGISTER r\", r 0 .. 15", test::registerIsInRange);
        test.check.sentence("\"A PART 0 .. 3\"", test::partIsInRange);
        test.check.sentence("\"64 bits of it, the highest first\"", test::highestPartIsFirst);
        test.check.sentence("each bit stands in its part", test::everyBitHasItsPart);
        test.check.sentence("an answer changes nothing", test::getChangesNothing);
        test.check.end();
    }

    private void registerIsInRange() {
        for (int part = 0; part < 4; part++) {
            int good = part;
            check.range("get of part " + part + " with r", 16, (w, r) -> w.get(r, good));
        }
    }

    private void partIsInRange() {
        for (int r = 0; r < Wide.REGISTERS; r++) {
            int good = r;
            check.range("get of register " + r + " with part", 4, (w, part) -> w.get(good, part));
        }
    }

    /** The numbers come of arithmetic, so that set and get can't be wrong in the same way unseen. */
    private void highestPartIsFirst() {
        WideNumbers w = new WideNumbers();
        w.set(0, 0, 0, 0, -1);
        w.set(1, 0, 0, 0, 1);
        w.two(0, 2, 0, 1);
        check.same("part 3 of 2^64", w.get(2, 3), 0L);
        check.same("part 2 of 2^64", w.get(2, 2), 1L);
        check.same("part 1 of 2^64", w.get(2, 1), 0L);
        check.same("part 0 of 2^64", w.get(2, 0), 0L);
        w.turn(2, 1, false);
        w.set(0, 0, 0, 0, 192);
        w.two(9, 3, 0, 1);
        check.same("part 0 of 2^192", w.get(3, 0), 1L);
        check.same("part 1 of 2^192", w.get(3, 1), 0L);
        check.same("part 0 of -1", w.get(2, 0), -1L);
        check.same("part 3 of -1", w.get(2, 3), -1L);
    }

    private void everyBitHasItsPart() {
        for (int bit = 0; bit < 256; bit++) {
            WideNumbers w = new WideNumbers();
            w.set(0, 0, 0, 0, bit);
            w.set(1, 0, 0, 0, 1);
            w.two(9, 2, 0, 1);
            for (int part = 0; part < 4; part++) {
                long due = part == 3 - bit / 64 ? 1L << (bit % 64) : 0L;
                check.same("part " + part + " of 2^" + bit, w.get(2, part), due);
            }
        }
    }

    private void getChangesNothing() {
        WideNumbers w = Wide.filled();
        for (int time = 0; time < 2; time++) {
            for (int r = 0; r < Wide.REGISTERS; r++) {
                check.number("register " + r + ", time " + time, Wide.read(w, r), Wide.filling(r));
            }
        }
    }
}
