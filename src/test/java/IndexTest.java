/** Promise 8. */
public final class IndexTest {
    public static void main(String[] args) {
        Check check = new Check();
        orderWithinOneId(check);
        idsComeFirst(check);
        wrongInputs(check);
        full(check);
        check.end();
    }

    private static void orderWithinOneId(Check check) {
        NameTable x = new NameTable();
        int[] coming = {5, 0, 7, 2, 6, 1, 4, 3};
        for (int index : coming) {
            x.add(42, index, 100 + index);
        }
        for (int k = 0; k < 8; k++) {
            check.due("index(" + k + ")", x.index(k), k);
            check.due("get(42, " + k + ")", x.get(42, k), 100 + k);
        }
    }

    private static void idsComeFirst(Check check) {
        NameTable x = new NameTable();
        x.add(2, 0, 1);
        x.add(1, 7, 1);
        x.add(3, 3, 1);
        check.due("index(0)", x.index(0), 7);
        check.due("index(1)", x.index(1), 0);
        check.due("index(2)", x.index(2), 3);
    }

    private static void wrongInputs(Check check) {
        NameTable x = new NameTable();
        x.add(77, 4, 1);
        x.add(78, 5, 1);
        x.take(1);
        int[] badPlaces = {-1, 1, 2, 899, 900, Integer.MIN_VALUE, Integer.MAX_VALUE};
        for (int k : badPlaces) {
            check.due("index(" + k + ")", x.index(k), NameTable.NONE);
        }
        check.due("index(0)", x.index(0), 4);
    }

    private static void full(Check check) {
        for (int hundred = 0; hundred < 9; hundred++) {
            NameTable x = Check.full();
            for (int k = 100 * hundred; k < 100 * hundred + 100; k++) {
                check.due("index(" + k + ")", x.index(k), Check.fullIndex(k));
            }
        }
        check.due("index(900)", Check.full().index(900), NameTable.NONE);
    }
}
