import java.math.BigInteger;

/** Calls of two for the tests of promise 4. */
abstract class TwoOf {
    final Check check = new Check("promise 4");

    /** On a new object and on a used one, so that nothing left over from earlier calls comes into the answer. */
    final void due(int op, BigInteger a, BigInteger b, BigInteger answer) {
        dueOn(new WideNumbers(), op, a, b, answer);
        dueOn(Wide.used(), op, a, b, answer);
    }

    final void due(int op, long a, long b, long answer) {
        due(op, Wide.of(a), Wide.of(b), Wide.of(answer));
    }

    private void dueOn(WideNumbers w, int op, BigInteger a, BigInteger b, BigInteger answer) {
        Wide.put(w, 4, a);
        Wide.put(w, 11, b);
        w.two(op, 7, 4, 11);
        String what = "two(" + op + ") of " + a.toString(16) + " and " + b.toString(16);
        check.number(what, Wide.read(w, 7), answer);
        check.number(what + ": a behind it", Wide.read(w, 4), a);
        check.number(what + ": b behind it", Wide.read(w, 11), b);
    }
}
