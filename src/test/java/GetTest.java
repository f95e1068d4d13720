/** Promise 6. */
public final class GetTest {
    public static void main(String[] args) {
        Check check = new Check();
        ordinary(check);
        wrongInputs(check);
        everyOneOfFull(check);
        check.end();
    }

    private static void ordinary(Check check) {
        NameTable x = new NameTable();
        x.add(2, 0, 5);
        x.add(2, 7, 0);
        x.add(-2, 0, 6);
        x.add(2 + (1L << 32), 0, 7);
        check.due("get(2, 0)", x.get(2, 0), 5);
        check.due("get(2, 7)", x.get(2, 7), 0);
        check.due("get(-2, 0)", x.get(-2, 0), 6);
        check.due("get(2 + (1 << 32), 0)", x.get(2 + (1L << 32), 0), 7);
        check.due("get(2, 1)", x.get(2, 1), NameTable.NONE);
        check.due("get(3, 0)", x.get(3, 0), NameTable.NONE);
        check.due("get(-2 - (1 << 32), 0)", x.get(-2 - (1L << 32), 0), NameTable.NONE);
        check.due("get(MIN, 0)", x.get(Long.MIN_VALUE, 0), NameTable.NONE);
        check.due("get(MAX, 7)", x.get(Long.MAX_VALUE, 7), NameTable.NONE);
        check.due("many()", x.many(), 4);
    }

    private static void wrongInputs(Check check) {
        NameTable x = new NameTable();
        x.add(2, 0, 5);
        x.add(2, 7, 5);
        int[] badIndexes = {-1, 8, 256, Integer.MIN_VALUE, Integer.MAX_VALUE};
        for (int index : badIndexes) {
            check.due("get(2, " + index + ")", x.get(2, index), NameTable.REFUSED);
        }
    }

    private static void everyOneOfFull(Check check) {
        for (int hundred = 0; hundred < 9; hundred++) {
            NameTable x = Check.full();
            for (int k = 100 * hundred; k < 100 * hundred + 100; k++) {
                int index = Check.fullIndex(k);
                check.due("get of coin " + k, x.get(10L * k, index), hundred);
                check.due("get beside coin " + k, x.get(10L * k, (index + 1) % 8), NameTable.NONE);
                check.due("get after coin " + k, x.get(10L * k + 1, index), NameTable.NONE);
            }
        }
    }
}
