/** Promise 5. */
public final class TakeTest {
    public static void main(String[] args) {
        Check check = new Check();
        ordinary(check);
        wrongInputs(check);
        fromFull(check);
        check.end();
    }

    private static void ordinary(Check check) {
        NameTable x = new NameTable();
        x.add(9, 3, 30);
        x.add(-9, 3, 10);
        x.add(9, 1, 20);
        check.due("take(1)", x.take(1), 20);
        check.due("get(9, 1)", x.get(9, 1), NameTable.NONE);
        check.due("many()", x.many(), 2);
        check.due("take(1) again", x.take(1), 30);
        check.due("take(1) at the end", x.take(1), NameTable.NONE);
        check.due("take(0)", x.take(0), 10);
        check.due("take(0) of none", x.take(0), NameTable.NONE);
        check.due("many() at last", x.many(), 0);
        check.due("value()", x.value(), 0);
    }

    private static void wrongInputs(Check check) {
        NameTable x = new NameTable();
        x.add(1, 0, 10);
        int[] badPlaces = {-1, 1, 2, 899, 900, 901, Integer.MIN_VALUE, Integer.MAX_VALUE};
        for (int k : badPlaces) {
            check.due("take(" + k + ")", x.take(k), NameTable.NONE);
        }
        check.due("many()", x.many(), 1);
    }

    private static void fromFull(Check check) {
        NameTable x = Check.full();
        check.due("take(900)", x.take(900), NameTable.NONE);
        check.due("take(899)", x.take(899), 8);
        check.due("take(899) again", x.take(899), NameTable.NONE);
        check.due("take(0)", x.take(0), 0);
        check.due("take(0) again", x.take(0), 0);
        check.due("take(397), coin 399", x.take(397), 3);
        check.due("take(397), coin 400", x.take(397), 4);
        check.due("many()", x.many(), 895);
        check.due("name(396)", x.name(396), 3980);
        check.due("name(397)", x.name(397), 4010);
        check.due("index(397)", x.index(397), Check.fullIndex(401));
        check.due("name(894)", x.name(894), 8980);
    }
}
