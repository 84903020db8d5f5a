/** Promise 1: a new object. */
final class NewObjectTest {
    private final Check check = new Check("promise 1");

    public static void main(String[] args) {
        NewObjectTest test = new NewObjectTest();
        test.check.sentence("\"All REGISTERS are 0.\"", test::allAreZero);
        test.check.sentence("\"All REGISTERS are 0\", whatever other objects hold", test::otherObjectsStayApart);
        test.check.end();
    }

    private void allAreZero() {
        expectZeros(new WideNumbers(), "a new object");
    }

    private void otherObjectsStayApart() {
        WideNumbers before = new WideNumbers();
        Wide.filled();
        Wide.used();
        expectZeros(before, "an object made before others were filled");
        expectZeros(new WideNumbers(), "an object made behind filled ones");
    }

    private void expectZeros(WideNumbers w, String which) {
        for (int r = 0; r < Wide.REGISTERS; r++) {
            for (int part = 0; part < 4; part++) {
                check.same(which + ": get(" + r + ", " + part + ")", w.get(r, part), 0L);
            }
            check.same(which + ": bytes(" + r + ")", w.bytes(r), 0);
            check.same(which + ": compare(" + r + ", 0, false)", w.compare(r, 0, false), 0);
        }
    }
}
