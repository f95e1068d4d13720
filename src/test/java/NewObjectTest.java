/** Promise 1. */
public final class NewObjectTest {
    public static void main(String[] args) {
        Check check = new Check();
        NameTable x = new NameTable();
        check.due("many()", x.many(), 0);
        check.due("value()", x.value(), 0);
        check.due("name(0)", x.name(0), 0);
        check.due("index(0)", x.index(0), NameTable.NONE);
        check.due("take(0)", x.take(0), NameTable.NONE);
        for (int index = 0; index < 8; index++) {
            check.due("get(0, " + index + ")", x.get(0, index), NameTable.NONE);
            check.due("remove(0, " + index + ")", x.remove(0, index), NameTable.NONE);
        }
        objectsShareNothing(check);
        check.end();
    }

    private static void objectsShareNothing(Check check) {
        NameTable first = new NameTable();
        first.add(1, 1, 1);
        NameTable second = new NameTable();
        check.due("second.many()", second.many(), 0);
        second.add(0, 0, 2);
        check.due("first.name(0)", first.name(0), 1);
        check.due("first.value()", first.value(), 1);
    }
}
