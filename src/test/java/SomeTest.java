/** Promise 3. */
public final class SomeTest {
    public static void main(String[] args) {
        Check check = new Check();
        ordinary(check);
        downwards(check);
        wrapping(check);
        sameNames(check);
        wrongInputs(check);
        nearlyFull(check);
        check.end();
    }

    private static void ordinary(Check check) {
        NameTable x = new NameTable();
        check.due("some(10, 3, 1, 0)", x.some(10, 3, 1, 0), 1);
        check.due("some(1000, 3, 100, 7)", x.some(1000, 3, 100, 7), 100);
        for (int k = 0; k < 100; k++) {
            check.due("get of coin " + k, x.get(1000 + 3L * k, k % 8), 7);
            check.due("name(" + (k + 1) + ")", x.name(k + 1), 1000 + 3L * k);
            check.due("index(" + (k + 1) + ")", x.index(k + 1), k % 8);
        }
        check.due("value()", x.value(), 700);
        check.due("get(10, 0)", x.get(10, 0), 0);
    }

    private static void downwards(Check check) {
        NameTable x = new NameTable();
        check.due("some(0, -2, 10, 1)", x.some(0, -2, 10, 1), 10);
        check.due("name(0)", x.name(0), -18);
        check.due("index(0)", x.index(0), 1);
        check.due("name(9)", x.name(9), 0);
        check.due("index(9)", x.index(9), 0);
    }

    private static void wrapping(Check check) {
        NameTable x = new NameTable();
        check.due("some(MAX, 1, 2, 5)", x.some(Long.MAX_VALUE, 1, 2, 5), 2);
        check.due("get(MIN, 1)", x.get(Long.MIN_VALUE, 1), 5);
        check.due("some(0, MAX, 4, 6)", x.some(0, Long.MAX_VALUE, 4, 6), 4);
        check.due("get(MAX, 1)", x.get(Long.MAX_VALUE, 1), 6);
        check.due("get(-2, 2)", x.get(-2, 2), 6);
        check.due("get(MAX - 2, 3)", x.get(Long.MAX_VALUE - 2, 3), 6);
        check.due("some(1, 1 << 32, 3, 8)", x.some(1, 1L << 32, 3, 8), 3);
        check.due("get(1 + (2 << 32), 2)", x.get(1 + (2L << 32), 2), 8);
    }

    private static void sameNames(Check check) {
        NameTable x = new NameTable();
        x.add(4, 2, 50);
        check.due("some(4, 0, 5, 1)", x.some(4, 0, 5, 1), 4);
        check.due("get(4, 2)", x.get(4, 2), 50);
        check.due("some(4, 0, 100, 1)", x.some(4, 0, 100, 1), 3);
        check.due("some(4, 0, 100, 1) again", x.some(4, 0, 100, 1), 0);
        check.due("some(0, MIN, 100, 1)", x.some(0, Long.MIN_VALUE, 100, 1), 8);
        check.due("many()", x.many(), 16);
    }

    private static void wrongInputs(Check check) {
        NameTable x = new NameTable();
        int[] badCounts = {0, -1, 101, Integer.MIN_VALUE, Integer.MAX_VALUE};
        for (int n : badCounts) {
            check.due("some(1, 1, " + n + ", 1)", x.some(1, 1, n, 1), NameTable.REFUSED);
        }
        check.due("some(1, 1, 5, -1)", x.some(1, 1, 5, -1), NameTable.REFUSED);
        check.due("some(1, 1, 5, MIN)", x.some(1, 1, 5, Integer.MIN_VALUE), NameTable.REFUSED);
        check.due("many()", x.many(), 0);
    }

    private static void nearlyFull(Check check) {
        NameTable x = Check.full();
        check.due("some(5, 10, 100, 1), full", x.some(5, 10, 100, 1), 0);
        check.due("some(5, 10, 101, 1), full", x.some(5, 10, 101, 1), NameTable.REFUSED);
        x.take(0);
        x.take(0);
        x.take(0);
        check.due("some(30, 5, 100, 1), room for 3", x.some(30, 5, 100, 1), 3);
        check.due("many()", x.many(), 900);
        check.due("get(30, 0)", x.get(30, 0), 1);
        check.due("get(35, 1)", x.get(35, 1), 1);
        check.due("get(40, 2)", x.get(40, 2), 1);
        check.due("get(45, 3)", x.get(45, 3), NameTable.NONE);
    }
}
