/** The boundary cases that promises 4 (remove) and 5 (take) name, a method for each. */
public final class GoingEdgeTest {
    private static final int[] WRONG_INDEXES = {-1, 8, 255, 256, Integer.MIN_VALUE, Integer.MAX_VALUE};

    public static void main(String[] args) {
        Check check = new Check();
        removeOfTheFirstTheLastAndTheOnly(check);
        removeTellsTheValue(check);
        removeRefusesIndexes(check);
        removeOfNone(check);
        removeFromAFullObject(check);
        takeOfTheFirstTheLastAndTheOnly(check);
        takeTellsTheValue(check);
        takeOfNoneAbove(check);
        takeOfNoneBelowZero(check);
        takeFromAnEmptyObject(check);
        takeFromAFullObject(check);
        check.end();
    }

    /** Promise 4, "A COIN goes", wherever it stands. */
    private static void removeOfTheFirstTheLastAndTheOnly(Check check) {
        NameTable x = threeCoins();
        check.due("remove of the first", x.remove(10, 0), 1);
        check.due("name(0)", x.name(0), 20);
        check.due("remove of the last", x.remove(30, 7), 3);
        check.due("name(1)", x.name(1), 0);
        check.due("remove of the only one", x.remove(20, 4), 2);
        check.due("many()", x.many(), 0);
        check.due("name(0) of none", x.name(0), 0);
        check.due("add after the last went", x.add(20, 4, 5), 1);
    }

    /** Promise 4, "its VALUE", from 0 to the largest. */
    private static void removeTellsTheValue(Check check) {
        NameTable x = new NameTable();
        x.add(1, 0, 0);
        x.add(1, 1, Integer.MAX_VALUE);
        check.due("remove(1, 0)", x.remove(1, 0), 0);
        check.due("remove(1, 1)", x.remove(1, 1), Integer.MAX_VALUE);
    }

    /** Promise 4, "REFUSED if index is not 0 to 7", whether there are coins or not. */
    private static void removeRefusesIndexes(Check check) {
        NameTable x = threeCoins();
        String before = Check.told(x);
        for (int index : WRONG_INDEXES) {
            check.due("remove(10, " + index + ")", x.remove(10, index), NameTable.REFUSED);
            check.due("remove(11, " + index + ")", x.remove(11, index), NameTable.REFUSED);
            check.due("remove of none with " + index, new NameTable().remove(0, index), NameTable.REFUSED);
        }
        check.unchanged("remove of a wrong index", x, before);
    }

    /** Promise 4, "NONE if there is none". */
    private static void removeOfNone(Check check) {
        NameTable x = threeCoins();
        String before = Check.told(x);
        check.due("remove before the first", x.remove(Long.MIN_VALUE, 0), NameTable.NONE);
        check.due("remove behind the last", x.remove(Long.MAX_VALUE, 7), NameTable.NONE);
        check.due("remove of the ID alone, below", x.remove(20, 3), NameTable.NONE);
        check.due("remove of the ID alone, above", x.remove(20, 5), NameTable.NONE);
        check.due("remove of the INDEX alone, below", x.remove(19, 4), NameTable.NONE);
        check.due("remove of the INDEX alone, above", x.remove(21, 4), NameTable.NONE);
        check.unchanged("remove of none", x, before);
        x.remove(30, 7);
        check.due("remove of the last again", x.remove(30, 7), NameTable.NONE);
        check.due("remove(0, 0), empty", new NameTable().remove(0, 0), NameTable.NONE);
        check.due("remove(0, 7), empty", new NameTable().remove(0, 7), NameTable.NONE);
    }

    private static void removeFromAFullObject(Check check) {
        NameTable x = Check.full();
        check.due("remove of the last of 900", x.remove(8990, 3), 8);
        check.due("remove of the last of 900 again", x.remove(8990, 3), NameTable.NONE);
        check.due("remove of the first of 899", x.remove(0, 0), 0);
        check.due("remove of the first of 899 again", x.remove(0, 0), NameTable.NONE);
        check.due("many()", x.many(), 898);
        check.due("name(0)", x.name(0), 10);
        check.due("name(897)", x.name(897), 8980);
    }

    /** Promise 5, "COIN k in the order of names, from 0, goes". */
    private static void takeOfTheFirstTheLastAndTheOnly(Check check) {
        NameTable x = threeCoins();
        check.due("take(0) of three", x.take(0), 1);
        check.due("get(10, 0)", x.get(10, 0), NameTable.NONE);
        check.due("take(1) of two", x.take(1), 3);
        check.due("get(30, 7)", x.get(30, 7), NameTable.NONE);
        check.due("take(0) of one", x.take(0), 2);
        check.due("many()", x.many(), 0);
        check.due("add after the last went", x.add(20, 4, 5), 1);
    }

    /** Promise 5, "its VALUE", from 0 to the largest. */
    private static void takeTellsTheValue(Check check) {
        NameTable x = new NameTable();
        x.add(1, 0, 0);
        x.add(1, 1, Integer.MAX_VALUE);
        check.due("take(1)", x.take(1), Integer.MAX_VALUE);
        check.due("take(0)", x.take(0), 0);
    }

    /** Promise 5, "NONE if there is none". */
    private static void takeOfNoneAbove(Check check) {
        NameTable x = threeCoins();
        String before = Check.told(x);
        for (int k : new int[] {3, 4, 899, 900, 901, Integer.MAX_VALUE}) {
            check.due("take(" + k + ")", x.take(k), NameTable.NONE);
        }
        check.unchanged("take beyond the last", x, before);
    }

    /** Promise 5, "(k below 0, too)". */
    private static void takeOfNoneBelowZero(Check check) {
        NameTable x = threeCoins();
        String before = Check.told(x);
        for (int k : new int[] {-1, -2, -3, -900, Integer.MIN_VALUE}) {
            check.due("take(" + k + ")", x.take(k), NameTable.NONE);
        }
        check.unchanged("take below 0", x, before);
    }

    private static void takeFromAnEmptyObject(Check check) {
        NameTable x = new NameTable();
        for (int k : new int[] {-1, 0, 1, Integer.MIN_VALUE, Integer.MAX_VALUE}) {
            check.due("take(" + k + "), empty", x.take(k), NameTable.NONE);
        }
        check.due("many()", x.many(), 0);
    }

    private static void takeFromAFullObject(Check check) {
        NameTable x = Check.full();
        String before = Check.told(x);
        check.due("take(900) of 900", x.take(900), NameTable.NONE);
        check.due("take(-1) of 900", x.take(-1), NameTable.NONE);
        check.unchanged("take of none of 900", x, before);
        check.due("take(899) of 900", x.take(899), 8);
        check.due("take(899) of 899", x.take(899), NameTable.NONE);
        check.due("take(0) of 899", x.take(0), 0);
        check.due("name(0)", x.name(0), 10);
        check.due("name(897)", x.name(897), 8980);
        check.due("name(898)", x.name(898), 0);
    }

    private static NameTable threeCoins() {
        NameTable x = new NameTable();
        x.add(20, 4, 2);
        x.add(30, 7, 3);
        x.add(10, 0, 1);
        return x;
    }
}
