/** The boundary cases that promises 6 to 10 (get, name, index, many, value) name, a method for each. */
public final class TellingEdgeTest {
    private static final int[] WRONG_INDEXES = {-1, 8, 255, 256, Integer.MIN_VALUE, Integer.MAX_VALUE};

    public static void main(String[] args) {
        Check check = new Check();
        getTellsTheValue(check);
        getRefusesIndexes(check);
        getOfNone(check);
        nameOfTheFirstAndTheLast(check);
        nameOfNone(check);
        nameOfOneThatWent(check);
        indexOfTheFirstAndTheLast(check);
        indexOfNone(check);
        indexOfOneThatWent(check);
        manyFromNoneTo900(check);
        manyAfterCallsThatFail(check);
        valueOfNone(check);
        valueAfterCallsThatFail(check);
        valueBeyondAnInt(check);
        tellingChangesNothing(check);
        check.end();
    }

    /** Promise 6, "The VALUE of a COIN", from 0 to the largest, under INDEX 0 and 7. */
    private static void getTellsTheValue(Check check) {
        NameTable x = new NameTable();
        x.add(Long.MIN_VALUE, 0, 0);
        x.add(Long.MAX_VALUE, 7, Integer.MAX_VALUE);
        check.due("get(MIN, 0)", x.get(Long.MIN_VALUE, 0), 0);
        check.due("get(MAX, 7)", x.get(Long.MAX_VALUE, 7), Integer.MAX_VALUE);
    }

    /** Promise 6, "REFUSED if index is not 0 to 7", whether there are coins or not. */
    private static void getRefusesIndexes(Check check) {
        NameTable x = threeCoins();
        NameTable full = Check.full();
        for (int index : WRONG_INDEXES) {
            check.due("get(10, " + index + ")", x.get(10, index), NameTable.REFUSED);
            check.due("get(11, " + index + ")", x.get(11, index), NameTable.REFUSED);
            check.due("get of none with " + index, new NameTable().get(0, index), NameTable.REFUSED);
            check.due("get of 900 with " + index, full.get(0, index), NameTable.REFUSED);
        }
    }

    /** Promise 6, "NONE if there is none". */
    private static void getOfNone(Check check) {
        NameTable x = threeCoins();
        check.due("get before the first", x.get(Long.MIN_VALUE, 0), NameTable.NONE);
        check.due("get behind the last", x.get(Long.MAX_VALUE, 7), NameTable.NONE);
        check.due("get of the ID alone, below", x.get(20, 3), NameTable.NONE);
        check.due("get of the ID alone, above", x.get(20, 5), NameTable.NONE);
        check.due("get of the INDEX alone, below", x.get(19, 4), NameTable.NONE);
        check.due("get of the INDEX alone, above", x.get(21, 4), NameTable.NONE);
        x.remove(30, 7);
        check.due("get of one that was removed", x.get(30, 7), NameTable.NONE);
        x.take(0);
        check.due("get of one that was taken", x.get(10, 0), NameTable.NONE);
        check.due("get(0, 0), empty", new NameTable().get(0, 0), NameTable.NONE);
        check.due("get(0, 7), empty", new NameTable().get(0, 7), NameTable.NONE);
        check.due("get before the first of 900", Check.full().get(-1, 7), NameTable.NONE);
        check.due("get behind the last of 900", Check.full().get(8990, 4), NameTable.NONE);
    }

    /** Promise 7, "The ID of COIN k in the order of names". */
    private static void nameOfTheFirstAndTheLast(Check check) {
        NameTable x = threeCoins();
        check.due("name(0) of three", x.name(0), 10);
        check.due("name(2) of three", x.name(2), 30);
        check.due("name(0) of 900", Check.full().name(0), 0);
        check.due("name(899) of 900", Check.full().name(899), 8990);
    }

    /** Promise 7, "0 if there is none". */
    private static void nameOfNone(Check check) {
        NameTable x = threeCoins();
        for (int k : new int[] {-1, 3, 4, 899, 900, 901, Integer.MIN_VALUE, Integer.MAX_VALUE}) {
            check.due("name(" + k + ") of three", x.name(k), 0);
            check.due("name(" + k + "), empty", new NameTable().name(k), 0);
        }
        check.due("name(900) of 900", Check.full().name(900), 0);
        check.due("name(-1) of 900", Check.full().name(-1), 0);
    }

    private static void nameOfOneThatWent(Check check) {
        NameTable x = threeCoins();
        x.take(2);
        check.due("name(2) after take", x.name(2), 0);
        x.remove(20, 4);
        check.due("name(1) after remove", x.name(1), 0);
        NameTable full = Check.full();
        full.take(899);
        check.due("name(899) of 899", full.name(899), 0);
    }

    /** Promise 8, "The INDEX of COIN k in the order of names". */
    private static void indexOfTheFirstAndTheLast(Check check) {
        NameTable x = threeCoins();
        check.due("index(0) of three", x.index(0), 0);
        check.due("index(2) of three", x.index(2), 7);
        check.due("index(0) of 900", Check.full().index(0), 0);
        check.due("index(899) of 900", Check.full().index(899), 3);
    }

    /** Promise 8, "NONE if there is none". */
    private static void indexOfNone(Check check) {
        NameTable x = threeCoins();
        for (int k : new int[] {-1, 3, 4, 899, 900, 901, Integer.MIN_VALUE, Integer.MAX_VALUE}) {
            check.due("index(" + k + ") of three", x.index(k), NameTable.NONE);
            check.due("index(" + k + "), empty", new NameTable().index(k), NameTable.NONE);
        }
        check.due("index(900) of 900", Check.full().index(900), NameTable.NONE);
        check.due("index(-1) of 900", Check.full().index(-1), NameTable.NONE);
    }

    private static void indexOfOneThatWent(Check check) {
        NameTable x = threeCoins();
        x.take(2);
        check.due("index(2) after take", x.index(2), NameTable.NONE);
        x.remove(20, 4);
        check.due("index(1) after remove", x.index(1), NameTable.NONE);
        NameTable full = Check.full();
        full.take(899);
        check.due("index(899) of 899", full.index(899), NameTable.NONE);
    }

    /** Promise 9, "How many COINS there are", from none to the most. */
    private static void manyFromNoneTo900(Check check) {
        check.due("many(), empty", new NameTable().many(), 0);
        NameTable x = Check.full();
        check.due("many(), full", x.many(), 900);
        x.take(0);
        check.due("many(), one less", x.many(), 899);
        NameTable y = threeCoins();
        y.take(0);
        y.take(0);
        y.take(0);
        check.due("many(), empty again", y.many(), 0);
    }

    private static void manyAfterCallsThatFail(Check check) {
        NameTable x = threeCoins();
        callsThatFail(x);
        check.due("many() of three", x.many(), 3);
        NameTable empty = new NameTable();
        empty.take(0);
        empty.take(-1);
        empty.remove(0, 0);
        check.due("many() of none", empty.many(), 0);
        NameTable full = Check.full();
        callsThatFail(full);
        full.add(-1, 0, 1);
        full.some(-100, 1, 100, 1);
        check.due("many() of 900", full.many(), 900);
    }

    /** Promise 10, "The VALUES of all COINS, added", where there are none or only zeros. */
    private static void valueOfNone(Check check) {
        check.due("value(), empty", new NameTable().value(), 0);
        NameTable x = new NameTable();
        x.add(1, 0, 0);
        check.due("value() of a zero", x.value(), 0);
        x.add(2, 0, 9);
        x.take(1);
        check.due("value() of a zero again", x.value(), 0);
        x.take(0);
        check.due("value(), empty again", x.value(), 0);
    }

    private static void valueAfterCallsThatFail(Check check) {
        NameTable x = threeCoins();
        callsThatFail(x);
        check.due("value() of three", x.value(), 6);
        NameTable full = Check.full();
        callsThatFail(full);
        full.add(-1, 0, 1);
        full.some(-100, 1, 100, 1);
        check.due("value() of 900", full.value(), 3600);
    }

    /** Promise 10: the sum is a long. */
    private static void valueBeyondAnInt(Check check) {
        NameTable x = new NameTable();
        x.add(1, 0, Integer.MAX_VALUE);
        check.due("value() of the largest int", x.value(), Integer.MAX_VALUE);
        x.add(2, 0, 1);
        check.due("value() of one more", x.value(), Integer.MAX_VALUE + 1L);
        x.take(1);
        check.due("value() of one less", x.value(), Integer.MAX_VALUE);
        NameTable most = new NameTable();
        for (int k = 0; k < 9; k++) {
            most.some(1000L * k, 1, 100, Integer.MAX_VALUE);
        }
        check.due("value() of the most", most.value(), 900L * Integer.MAX_VALUE);
    }

    private static void tellingChangesNothing(Check check) {
        NameTable x = threeCoins();
        String before = Check.told(x);
        for (int k : new int[] {-1, 0, 2, 3, Integer.MIN_VALUE, Integer.MAX_VALUE}) {
            x.name(k);
            x.index(k);
            x.get(10, k);
            x.get(k, 0);
        }
        check.unchanged("get, name and index", x, before);
        check.unchanged("many and value", x, before);
    }

    private static void callsThatFail(NameTable x) {
        x.add(1, -1, 5);
        x.add(1, 8, 5);
        x.add(1, 0, -5);
        x.some(1, 1, 0, 5);
        x.some(1, 1, 101, 5);
        x.some(1, 1, 5, -5);
        x.remove(1, -1);
        x.remove(1, 8);
        x.remove(1, 0);
        x.take(-1);
        x.take(900);
    }

    private static NameTable threeCoins() {
        NameTable x = new NameTable();
        x.add(20, 4, 2);
        x.add(30, 7, 3);
        x.add(10, 0, 1);
        return x;
    }
}
