/** Promise 2. */
public final class AddTest {
    public static void main(String[] args) {
        Check check = new Check();
        ordinary(check);
        wrongInputs(check);
        thereBefore(check);
        full(check);
        check.end();
    }

    private static void ordinary(Check check) {
        NameTable x = new NameTable();
        check.due("add(3, 0, 0)", x.add(3, 0, 0), 1);
        check.due("add(3, 7, MAX)", x.add(3, 7, Integer.MAX_VALUE), 2);
        check.due("add(MIN, 4, 5)", x.add(Long.MIN_VALUE, 4, 5), 3);
        check.due("add(MAX, 4, 6)", x.add(Long.MAX_VALUE, 4, 6), 4);
        check.due("get(3, 0)", x.get(3, 0), 0);
        check.due("get(3, 7)", x.get(3, 7), Integer.MAX_VALUE);
        check.due("get(MIN, 4)", x.get(Long.MIN_VALUE, 4), 5);
        check.due("get(MAX, 4)", x.get(Long.MAX_VALUE, 4), 6);
        check.due("add(3 - (1 << 32), 0, 8)", x.add(3 - (1L << 32), 0, 8), 5);
        check.due("get(3 - (1 << 32), 0)", x.get(3 - (1L << 32), 0), 8);
    }

    private static void wrongInputs(Check check) {
        NameTable x = new NameTable();
        int[] badIndexes = {-1, 8, 9, 256, Integer.MIN_VALUE, Integer.MAX_VALUE};
        for (int index : badIndexes) {
            check.due("add(1, " + index + ", 1)", x.add(1, index, 1), NameTable.REFUSED);
        }
        check.due("add(1, 0, -1)", x.add(1, 0, -1), NameTable.REFUSED);
        check.due("add(1, 0, MIN)", x.add(1, 0, Integer.MIN_VALUE), NameTable.REFUSED);
        check.due("add(1, 8, -1)", x.add(1, 8, -1), NameTable.REFUSED);
        check.due("many()", x.many(), 0);
    }

    private static void thereBefore(Check check) {
        NameTable x = new NameTable();
        x.add(6, 2, 11);
        check.due("add(6, 2, 12)", x.add(6, 2, 12), NameTable.THERE);
        check.due("add(6, 2, -1)", x.add(6, 2, -1), NameTable.REFUSED);
        check.due("get(6, 2)", x.get(6, 2), 11);
        check.due("many()", x.many(), 1);
        x.remove(6, 2);
        check.due("add(6, 2, 12) again", x.add(6, 2, 12), 1);
        check.due("get(6, 2) again", x.get(6, 2), 12);
    }

    private static void full(Check check) {
        NameTable x = Check.full();
        check.due("many()", x.many(), 900);
        check.due("add(5, 0, 1)", x.add(5, 0, 1), NameTable.FULL);
        check.due("add(9000, 0, 1)", x.add(9000, 0, 1), NameTable.FULL);
        check.due("add(10, 1, 1), there and full", x.add(10, 1, 1), NameTable.THERE);
        check.due("add(8990, 3, 1), there and full", x.add(8990, 3, 1), NameTable.THERE);
        check.due("add(5, 8, 1), full", x.add(5, 8, 1), NameTable.REFUSED);
        check.due("add(5, 0, -1), full", x.add(5, 0, -1), NameTable.REFUSED);
        check.due("value()", x.value(), 3600);
        x.take(899);
        check.due("add(9000, 0, 1) with room", x.add(9000, 0, 1), 900);
        check.due("name(899)", x.name(899), 9000);
        check.due("add(9001, 0, 1)", x.add(9001, 0, 1), NameTable.FULL);
    }
}
