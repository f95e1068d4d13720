/** The boundary cases that promises 2 (add) and 3 (some) name, a method for each. */
public final class ComingEdgeTest {
    public static void main(String[] args) {
        Check check = new Check();
        addTellsHowManyThereAreThen(check);
        addRefusesIndexes(check);
        addRefusesValues(check);
        addOfANameThatIsThere(check);
        addWith900(check);
        addThatFails(check);
        someTakesOneTo100(check);
        someRefusesOtherCounts(check);
        someRefusesValues(check);
        someWrapsAbove(check);
        someWrapsBelow(check);
        someWrapsTheProduct(check);
        someTurnsItsIndexesRound(check);
        someLeavesOutThoseThatAreThere(check);
        someMeetsItsOwn(check);
        someStopsAt900(check);
        check.end();
    }

    /** "A COIN comes: how many there are then." */
    private static void addTellsHowManyThereAreThen(Check check) {
        NameTable x = new NameTable();
        check.due("add, the first", x.add(7, 7, 7), 1);
        check.due("add, the second", x.add(6, 6, 6), 2);
        x.take(0);
        x.take(0);
        check.due("add to an object that is empty again", x.add(7, 7, 7), 1);
    }

    /** "REFUSED if index is not 0 to 7". */
    private static void addRefusesIndexes(Check check) {
        NameTable x = someCoins();
        String before = Check.told(x);
        for (int index : new int[] {-1, 8, 255, 256, Integer.MIN_VALUE, Integer.MAX_VALUE}) {
            check.due("add(50, " + index + ", 1)", x.add(50, index, 1), NameTable.REFUSED);
        }
        check.unchanged("add of a wrong index", x, before);
        check.due("add(50, 0, 1)", x.add(50, 0, 1), 5);
        check.due("add(50, 7, 1)", x.add(50, 7, 1), 6);
    }

    /** "or value below 0". */
    private static void addRefusesValues(Check check) {
        NameTable x = someCoins();
        String before = Check.told(x);
        check.due("add(50, 0, -1)", x.add(50, 0, -1), NameTable.REFUSED);
        check.due("add(50, 0, MIN)", x.add(50, 0, Integer.MIN_VALUE), NameTable.REFUSED);
        check.due("add(50, -1, -1)", x.add(50, -1, -1), NameTable.REFUSED);
        check.unchanged("add of a wrong value", x, before);
        check.due("add(50, 0, 0)", x.add(50, 0, 0), 5);
    }

    /** "THERE if there is one with this name". */
    private static void addOfANameThatIsThere(Check check) {
        NameTable x = someCoins();
        String before = Check.told(x);
        check.due("add of the first's name", x.add(10, 0, 99), NameTable.THERE);
        check.due("add of one between", x.add(20, 1, 0), NameTable.THERE);
        check.due("add of the last's name", x.add(40, 3, 5), NameTable.THERE);
        check.unchanged("add of a name that is there", x, before);
        x.remove(20, 1);
        check.due("add of a name that was there", x.add(20, 1, 0), 4);
    }

    /** "FULL with 900." */
    private static void addWith900(Check check) {
        NameTable x = Check.full();
        x.remove(0, 0);
        check.due("add with 899", x.add(0, 0, 0), 900);
        String before = Check.told(x);
        check.due("add in front, with 900", x.add(-1, 0, 1), NameTable.FULL);
        check.due("add between, with 900", x.add(4500, 0, 1), NameTable.FULL);
        check.due("add behind, with 900", x.add(9000, 0, 1), NameTable.FULL);
        check.unchanged("add with 900", x, before);
        x.remove(0, 0);
        check.due("add with 899 again", x.add(9000, 0, 1), 900);
    }

    /** The order in which promise 2 lists its answers: REFUSED, THERE, FULL. */
    private static void addThatFails(Check check) {
        NameTable x = Check.full();
        String before = Check.told(x);
        check.due("wrong index, with 900", x.add(-1, 8, 1), NameTable.REFUSED);
        check.due("wrong value, with 900", x.add(-1, 0, -1), NameTable.REFUSED);
        check.due("wrong value, name there, with 900", x.add(0, 0, -1), NameTable.REFUSED);
        check.due("name there, with 900", x.add(0, 0, 1), NameTable.THERE);
        check.unchanged("add that fails", x, before);
    }

    /** "n (1 to 100) COINS come". */
    private static void someTakesOneTo100(Check check) {
        check.due("some(0, 1, 1, 1)", new NameTable().some(0, 1, 1, 1), 1);
        check.due("some(0, 1, 2, 1)", new NameTable().some(0, 1, 2, 1), 2);
        check.due("some(0, 1, 99, 1)", new NameTable().some(0, 1, 99, 1), 99);
        NameTable x = new NameTable();
        check.due("some(0, 1, 100, 1)", x.some(0, 1, 100, 1), 100);
        check.due("get(0, 0), the first of 100", x.get(0, 0), 1);
        check.due("get(99, 3), the last of 100", x.get(99, 3), 1);
        check.due("get(100, 4), beyond them", x.get(100, 4), NameTable.NONE);
    }

    /** "REFUSED for another n". */
    private static void someRefusesOtherCounts(Check check) {
        NameTable x = someCoins();
        String before = Check.told(x);
        for (int n : new int[] {0, -1, -100, 101, 102, 1000, Integer.MIN_VALUE, Integer.MAX_VALUE}) {
            check.due("some(50, 1, " + n + ", 1)", x.some(50, 1, n, 1), NameTable.REFUSED);
            check.due("some(50, 1, " + n + ", -1)", x.some(50, 1, n, -1), NameTable.REFUSED);
        }
        check.unchanged("some of a wrong n", x, before);
        NameTable full = Check.full();
        check.due("some of 0, with 900", full.some(50, 1, 0, 1), NameTable.REFUSED);
        check.due("some of 101, with 900", full.some(50, 1, 101, 1), NameTable.REFUSED);
    }

    /** "or value below 0": REFUSED too where none could come. */
    private static void someRefusesValues(Check check) {
        NameTable x = someCoins();
        String before = Check.told(x);
        check.due("some(50, 1, 1, -1)", x.some(50, 1, 1, -1), NameTable.REFUSED);
        check.due("some(50, 1, 100, MIN)", x.some(50, 1, 100, Integer.MIN_VALUE), NameTable.REFUSED);
        check.due("some(10, 0, 1, -1), there", x.some(10, 0, 1, -1), NameTable.REFUSED);
        check.unchanged("some of a wrong value", x, before);
        check.due("some(50, 1, 1, -1), with 900", Check.full().some(50, 1, 1, -1), NameTable.REFUSED);
        check.due("some(50, 1, 1, 0)", x.some(50, 1, 1, 0), 1);
        check.due("some(60, 1, 1, MAX)", x.some(60, 1, 1, Integer.MAX_VALUE), 1);
        check.due("get(60, 0)", x.get(60, 0), Integer.MAX_VALUE);
    }

    /** "the ID id + k * step (wrapping)": over the largest long. */
    private static void someWrapsAbove(Check check) {
        NameTable x = new NameTable();
        check.due("some(MAX - 1, 1, 4, 1)", x.some(Long.MAX_VALUE - 1, 1, 4, 1), 4);
        dueCoin(check, x, 0, Long.MIN_VALUE, 2);
        dueCoin(check, x, 1, Long.MIN_VALUE + 1, 3);
        dueCoin(check, x, 2, Long.MAX_VALUE - 1, 0);
        dueCoin(check, x, 3, Long.MAX_VALUE, 1);
    }

    /** "(wrapping)": under the smallest long. */
    private static void someWrapsBelow(Check check) {
        NameTable x = new NameTable();
        check.due("some(MIN + 1, -1, 4, 1)", x.some(Long.MIN_VALUE + 1, -1, 4, 1), 4);
        dueCoin(check, x, 0, Long.MIN_VALUE, 1);
        dueCoin(check, x, 1, Long.MIN_VALUE + 1, 0);
        dueCoin(check, x, 2, Long.MAX_VALUE - 1, 3);
        dueCoin(check, x, 3, Long.MAX_VALUE, 2);
    }

    /** "(wrapping)": k * step alone goes beyond a long, and beyond an int. */
    private static void someWrapsTheProduct(Check check) {
        NameTable x = new NameTable();
        check.due("some(5, 1 << 62, 5, 1)", x.some(5, 1L << 62, 5, 1), 5);
        dueCoin(check, x, 0, 5 + Long.MIN_VALUE, 2);
        dueCoin(check, x, 1, 5 - (1L << 62), 3);
        dueCoin(check, x, 2, 5, 0);
        dueCoin(check, x, 3, 5, 4);
        dueCoin(check, x, 4, 5 + (1L << 62), 1);
        NameTable y = new NameTable();
        check.due("some(0, MIN, 3, 1)", y.some(0, Long.MIN_VALUE, 3, 1), 3);
        dueCoin(check, y, 0, Long.MIN_VALUE, 1);
        dueCoin(check, y, 1, 0, 0);
        dueCoin(check, y, 2, 0, 2);
        NameTable z = new NameTable();
        check.due("some(0, int MAX, 100, 1)", z.some(0, Integer.MAX_VALUE, 100, 1), 100);
        dueCoin(check, z, 99, 99L * Integer.MAX_VALUE, 3);
    }

    /** "the INDEX k % 8". */
    private static void someTurnsItsIndexesRound(Check check) {
        NameTable x = new NameTable();
        x.some(0, 1, 100, 1);
        for (int k : new int[] {0, 1, 7, 8, 9, 15, 16, 95, 96, 99}) {
            check.due("index(" + k + ")", x.index(k), k % 8);
        }
    }

    /** "those that may: how many did": names that are there stay out, those after them come. */
    private static void someLeavesOutThoseThatAreThere(Check check) {
        NameTable x = someCoins();
        check.due("some(0, 10, 6, 9)", x.some(0, 10, 6, 9), 6);
        NameTable y = someCoins();
        check.due("some(10, 10, 6, 9)", y.some(10, 10, 6, 9), 2);
        check.due("get(10, 0)", y.get(10, 0), 1);
        check.due("get(40, 3)", y.get(40, 3), 4);
        check.due("get(50, 4)", y.get(50, 4), 9);
        check.due("get(60, 5)", y.get(60, 5), 9);
        check.due("many()", y.many(), 6);
        check.due("some(10, 10, 6, 9) again", y.some(10, 10, 6, 9), 0);
        check.due("some(70, 10, 2, 9)", y.some(70, 10, 2, 9), 2);
    }

    /** "as for add": with the step 0, or one that comes round again, later coins meet those that came before. */
    private static void someMeetsItsOwn(Check check) {
        check.due("some(3, 0, 8, 1)", new NameTable().some(3, 0, 8, 1), 8);
        check.due("some(3, 0, 9, 1)", new NameTable().some(3, 0, 9, 1), 8);
        check.due("some(3, 0, 100, 1)", new NameTable().some(3, 0, 100, 1), 8);
        check.due("some(3, 1 << 60, 17, 1)", new NameTable().some(3, 1L << 60, 17, 1), 16);
        check.due("some(3, 1 << 58, 100, 1)", new NameTable().some(3, 1L << 58, 100, 1), 64);
    }

    /** "those that may: how many did", as far as there is room for them. */
    private static void someStopsAt900(Check check) {
        NameTable x = Check.full();
        String before = Check.told(x);
        check.due("some of 1, with 900", x.some(-1, 1, 1, 1), 0);
        check.due("some of 100, with 900", x.some(-1000, 1, 100, 1), 0);
        check.due("some of names that are there, with 900", x.some(0, 10, 100, 1), 0);
        check.unchanged("some with 900", x, before);
        x.take(899);
        check.due("some of 100, with 899", x.some(-1000, 1, 100, 7), 1);
        check.due("get(-1000, 0)", x.get(-1000, 0), 7);
        check.due("get(-999, 1)", x.get(-999, 1), NameTable.NONE);
        NameTable y = Check.full();
        y.take(50);
        // Coins 0 to 49 are there and take no room, so the one that is missing comes though it is the 51st.
        check.due("some(0, 10, 100, 7), one missing", y.some(0, 10, 100, 7), 1);
        check.due("get(500, 2)", y.get(500, 2), 7);
        NameTable z = Check.full();
        for (int k = 0; k < 100; k++) {
            z.take(800);
        }
        check.due("some of 100, with 800", z.some(9000, 1, 100, 7), 100);
        check.due("many()", z.many(), 900);
    }

    private static NameTable someCoins() {
        NameTable x = new NameTable();
        x.add(10, 0, 1);
        x.add(20, 1, 2);
        x.add(30, 2, 3);
        x.add(40, 3, 4);
        return x;
    }

    private static void dueCoin(Check check, NameTable x, int k, long id, int index) {
        check.due("name(" + k + ")", x.name(k), id);
        check.due("index(" + k + ")", x.index(k), index);
        check.due("get(" + id + ", " + index + ")", x.get(id, index), 1);
    }
}
