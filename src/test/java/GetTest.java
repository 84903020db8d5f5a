/** Promise 3: get answers a part of a register, the highest first, and changes nothing. */
final class GetTest {
    public static void main(String[] args) {
        Check check = new Check();
        highestPartIsFirst(check);
        getChangesNothing(check);
        outsideIsRefused(check);
        check.end();
    }

    private static void highestPartIsFirst(Check check) {
        WideNumbers w = new WideNumbers();
        w.set(0, 0, 0, 0, -1);
        w.set(1, 0, 0, 0, 1);
        w.two(0, 2, 0, 1);
        check.same("part 3 of 2^64", w.get(2, 3), 0L);
        check.same("part 2 of 2^64", w.get(2, 2), 1L);
        check.same("part 1 of 2^64", w.get(2, 1), 0L);
        check.same("part 0 of 2^64", w.get(2, 0), 0L);
        w.turn(2, 1, false);
        w.set(0, 0, 0, 0, 192);
        w.two(9, 3, 0, 1);
        check.same("part 0 of 2^192", w.get(3, 0), 1L);
        check.same("part 0 of -1", w.get(2, 0), -1L);
    }

    private static void getChangesNothing(Check check) {
        WideNumbers w = Wide.filled();
        for (int time = 0; time < 2; time++) {
            for (int r = 0; r < Wide.REGISTERS; r++) {
                check.number("register " + r + ", time " + time, Wide.read(w, r), Wide.filling(r));
            }
        }
    }

    private static void outsideIsRefused(Check check) {
        for (int r : Wide.OUTSIDE_REGISTERS) {
            check.refused("get(" + r + ", 0)", w -> w.get(r, 0));
        }
        for (int part : new int[] {-1, 4, 5, 7, 8, -4, Integer.MIN_VALUE, Integer.MAX_VALUE}) {
            check.refused("get(0, " + part + ")", w -> w.get(0, part));
            check.refused("get(15, " + part + ")", w -> w.get(15, part));
        }
    }
}
