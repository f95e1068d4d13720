/** Promise 7. */
public final class NameTest {
    public static void main(String[] args) {
        Check check = new Check();
        orderOfIds(check);
        wrongInputs(check);
        full(check);
        check.end();
    }

    private static void orderOfIds(Check check) {
        long[] due = {Long.MIN_VALUE, Long.MIN_VALUE + 1, -(1L << 32), -1, 0, 1, Integer.MAX_VALUE,
            1L << 32, (1L << 32) + 1, Long.MAX_VALUE - 1, Long.MAX_VALUE};
        int[] coming = {4, 10, 0, 7, 3, 8, 5, 1, 9, 2, 6};
        NameTable x = new NameTable();
        for (int k : coming) {
            x.add(due[k], (due.length - k) % 8, 1);
        }
        for (int k = 0; k < due.length; k++) {
            check.due("name(" + k + ")", x.name(k), due[k]);
        }
        check.due("many()", x.many(), due.length);
    }

    private static void wrongInputs(Check check) {
        NameTable x = new NameTable();
        x.add(77, 0, 1);
        x.add(78, 0, 1);
        x.take(1);
        int[] badPlaces = {-1, 1, 2, 899, 900, Integer.MIN_VALUE, Integer.MAX_VALUE};
        for (int k : badPlaces) {
            check.due("name(" + k + ")", x.name(k), 0);
        }
        check.due("name(0)", x.name(0), 77);
    }

    private static void full(Check check) {
        for (int hundred = 0; hundred < 9; hundred++) {
            NameTable x = Check.full();
            for (int k = 100 * hundred; k < 100 * hundred + 100; k++) {
                check.due("name(" + k + ")", x.name(k), 10L * k);
            }
        }
        check.due("name(900)", Check.full().name(900), 0);
    }
}
