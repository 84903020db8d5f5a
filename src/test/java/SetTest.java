import java.math.BigInteger;

/** Promise 2: set gives a register its parts, and no other register. */
final class SetTest {
    public static void main(String[] args) {
        Check check = new Check();
        partsStandWhereTheyWereSet(check);
        onlyOneRegisterChanges(check);
        everyEdgeIsHeld(check);
        outsideIsRefused(check);
        check.end();
    }

    private static void partsStandWhereTheyWereSet(Check check) {
        for (int r = 0; r < Wide.REGISTERS; r++) {
            WideNumbers w = new WideNumbers();
            w.set(r, 0x8000000000000001L, -2L, 0x00000000FFFFFFFFL, 0xFFFFFFFF00000000L);
            String name = "register " + r;
            check.same(name + " part 0", w.get(r, 0), 0x8000000000000001L);
            check.same(name + " part 1", w.get(r, 1), -2L);
            check.same(name + " part 2", w.get(r, 2), 0x00000000FFFFFFFFL);
            check.same(name + " part 3", w.get(r, 3), 0xFFFFFFFF00000000L);
        }
    }

    private static void onlyOneRegisterChanges(Check check) {
        for (int changed = 0; changed < Wide.REGISTERS; changed++) {
            WideNumbers w = Wide.filled();
            w.set(changed, 0, 0, 0, 5);
            for (int r = 0; r < Wide.REGISTERS; r++) {
                BigInteger due = r == changed ? Wide.of(5) : Wide.filling(r);
                check.number("register " + r + " behind set(" + changed + ")", Wide.read(w, r), due);
            }
        }
    }

    private static void everyEdgeIsHeld(Check check) {
        WideNumbers w = new WideNumbers();
        for (BigInteger n : Wide.edges()) {
            Wide.put(w, 9, n);
            check.number("register 9", Wide.read(w, 9), n);
        }
    }

    private static void outsideIsRefused(Check check) {
        for (int r : Wide.OUTSIDE_REGISTERS) {
            check.refused("set(" + r + ", ..)", w -> w.set(r, 1, 2, 3, 4));
        }
    }
}
