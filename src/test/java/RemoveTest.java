/** Promise 4. */
public final class RemoveTest {
    public static void main(String[] args) {
        Check check = new Check();
        ordinary(check);
        wrongInputs(check);
        fromFull(check);
        check.end();
    }

    private static void ordinary(Check check) {
        NameTable x = new NameTable();
        x.add(1, 0, 10);
        x.add(1, 1, 20);
        x.add(2, 0, 0);
        check.due("remove(1, 2)", x.remove(1, 2), NameTable.NONE);
        check.due("remove(0, 0)", x.remove(0, 0), NameTable.NONE);
        check.due("remove(3, 0)", x.remove(3, 0), NameTable.NONE);
        check.due("remove(1 + (1 << 32), 0)", x.remove(1 + (1L << 32), 0), NameTable.NONE);
        check.due("remove(1 - (1 << 32), 0)", x.remove(1 - (1L << 32), 0), NameTable.NONE);
        check.due("many() before", x.many(), 3);
        check.due("remove(1, 1)", x.remove(1, 1), 20);
        check.due("remove(1, 1) again", x.remove(1, 1), NameTable.NONE);
        check.due("get(1, 0)", x.get(1, 0), 10);
        check.due("remove(2, 0)", x.remove(2, 0), 0);
        check.due("remove(1, 0)", x.remove(1, 0), 10);
        check.due("remove(1, 0) again", x.remove(1, 0), NameTable.NONE);
        check.due("many() after", x.many(), 0);
        check.due("value()", x.value(), 0);
    }

    private static void wrongInputs(Check check) {
        NameTable x = new NameTable();
        x.add(1, 0, 10);
        x.add(1, 7, 10);
        int[] badIndexes = {-1, 8, 256, Integer.MIN_VALUE, Integer.MAX_VALUE};
        for (int index : badIndexes) {
            check.due("remove(1, " + index + ")", x.remove(1, index), NameTable.REFUSED);
        }
        check.due("many()", x.many(), 2);
    }

    private static void fromFull(Check check) {
        NameTable x = Check.full();
        check.due("remove(0, 0)", x.remove(0, 0), 0);
        check.due("remove(8990, 3)", x.remove(8990, 3), 8);
        check.due("remove(4500, 2)", x.remove(4500, 2), 4);
        check.due("many()", x.many(), 897);
        check.due("name(0)", x.name(0), 10);
        check.due("name(448)", x.name(448), 4490);
        check.due("name(449)", x.name(449), 4510);
        check.due("index(449)", x.index(449), 3);
        check.due("get(4510, 3)", x.get(4510, 3), 4);
        check.due("name(896)", x.name(896), 8980);
    }
}
