/** Promise 1: all registers of a new object are 0. */
final class NewObjectTest {
    public static void main(String[] args) {
        Check check = new Check();
        allAreZero(check, new WideNumbers(), "first object");
        Wide.filled();
        allAreZero(check, new WideNumbers(), "object made behind a filled one");
        objectsAreApart(check);
        check.end();
    }

    private static void allAreZero(Check check, WideNumbers w, String which) {
        for (int r = 0; r < Wide.REGISTERS; r++) {
            for (int part = 0; part < 4; part++) {
                check.same(which + ": get(" + r + ", " + part + ")", w.get(r, part), 0L);
            }
            check.same(which + ": bytes(" + r + ")", w.bytes(r), 0);
        }
    }

    private static void objectsAreApart(Check check) {
        WideNumbers one = new WideNumbers();
        WideNumbers other = new WideNumbers();
        one.set(3, 1, 2, 3, 4);
        one.two(2, 4, 3, 3);
        allAreZero(check, other, "object beside a used one");
    }
}
