/** The boundary cases that "What it is", "Terms" and promise 1 name, a method for each. */
public final class TermsEdgeTest {
    private static final int MOST_CALLS = 512;

    public static void main(String[] args) {
        Check check = new Check();
        lastCallIsPromised(check);
        lastCallIsPromisedForAFullObject(check);
        idIsAnyLong(check);
        indexIsZeroToSeven(check);
        noOtherHasTheName(check);
        valueIsZeroOrAbove(check);
        atMost900(check);
        noneAtFirst(check);
        orderedByIds(check);
        sameIdsAreOrderedByIndexes(check);
        check.end();
    }

    /** "An object is used for at most 512 calls after it has been made". */
    private static void lastCallIsPromised(Check check) {
        NameTable x = new NameTable();
        for (int call = 1; call <= MOST_CALLS; call++) {
            check.due("call " + call + ", add(" + -call + ", 0, 1)", x.add(-call, 0, 1), call);
        }
    }

    private static void lastCallIsPromisedForAFullObject(Check check) {
        NameTable x = Check.full();
        for (int call = 10; call < MOST_CALLS; call += 2) {
            check.due("call " + call + ", take(899)", x.take(899), call == 10 ? 8 : 1);
            check.due("call " + (call + 1) + ", add", x.add(10_000 + call, 0, 1), 900);
        }
        check.due("call 512, name(899)", x.name(899), 10_510);
    }

    /** "an ID (a long)". */
    private static void idIsAnyLong(Check check) {
        long[] ids = {Long.MIN_VALUE, Integer.MIN_VALUE - 1L, -1, 0, 1, Integer.MAX_VALUE + 1L, Long.MAX_VALUE};
        NameTable x = new NameTable();
        for (int k = 0; k < ids.length; k++) {
            check.due("add(" + ids[k] + ", 0, " + k + ")", x.add(ids[k], 0, k), k + 1);
        }
        for (int k = 0; k < ids.length; k++) {
            check.due("get(" + ids[k] + ", 0)", x.get(ids[k], 0), k);
            check.due("name(" + k + ")", x.name(k), ids[k]);
        }
    }

    /** "an INDEX (0 to 7)". */
    private static void indexIsZeroToSeven(Check check) {
        NameTable x = new NameTable();
        for (int index = 0; index < 8; index++) {
            check.due("add(0, " + index + ", 1)", x.add(0, index, 1), index + 1);
        }
        check.due("add(0, -1, 1)", x.add(0, -1, 1), NameTable.REFUSED);
        check.due("add(0, 8, 1)", x.add(0, 8, 1), NameTable.REFUSED);
    }

    /** "which no other one has": a name is the ID and the INDEX together. */
    private static void noOtherHasTheName(Check check) {
        NameTable x = new NameTable();
        check.due("add(5, 3, 1)", x.add(5, 3, 1), 1);
        check.due("add(5, 2, 1), another INDEX", x.add(5, 2, 1), 2);
        check.due("add(5, 4, 1), another INDEX", x.add(5, 4, 1), 3);
        check.due("add(4, 3, 1), another ID", x.add(4, 3, 1), 4);
        check.due("add(6, 3, 1), another ID", x.add(6, 3, 1), 5);
        check.due("add(5, 3, 1), the same name", x.add(5, 3, 1), NameTable.THERE);
        check.due("add(3, 5, 1), the name turned round", x.add(3, 5, 1), 6);
    }

    /** "a VALUE (0 or above)". */
    private static void valueIsZeroOrAbove(Check check) {
        NameTable x = new NameTable();
        check.due("add(1, 0, 0)", x.add(1, 0, 0), 1);
        check.due("add(2, 0, MAX)", x.add(2, 0, Integer.MAX_VALUE), 2);
        check.due("add(3, 0, -1)", x.add(3, 0, -1), NameTable.REFUSED);
        check.due("get(1, 0)", x.get(1, 0), 0);
        check.due("get(2, 0)", x.get(2, 0), Integer.MAX_VALUE);
        check.due("get(3, 0)", x.get(3, 0), NameTable.NONE);
    }

    /** "There are at most 900": the last may be as well in front as behind. */
    private static void atMost900(Check check) {
        for (long last : new long[] {-1, 4501, 9000}) {
            NameTable x = Check.full();
            x.take(450);
            check.due("many() of 899", x.many(), 899);
            check.due("add(" + last + ", 0, 1), the 900th", x.add(last, 0, 1), 900);
            check.due("add(20000, 0, 1), the 901st", x.add(20_000, 0, 1), NameTable.FULL);
            check.due("some(20000, 1, 1, 1), the 901st", x.some(20_000, 1, 1, 1), 0);
            check.due("many() at last", x.many(), 900);
            check.due("get(" + last + ", 0)", x.get(last, 0), 1);
        }
    }

    /** "none at first", and promise 1: "No COINS". */
    private static void noneAtFirst(Check check) {
        check.due("many()", new NameTable().many(), 0);
        check.due("value()", new NameTable().value(), 0);
        check.due("name(0)", new NameTable().name(0), 0);
        check.due("index(0)", new NameTable().index(0), NameTable.NONE);
        check.due("take(0)", new NameTable().take(0), NameTable.NONE);
        // A place that was never filled holds zeros, which must not pass for a coin.
        check.due("get(0, 0)", new NameTable().get(0, 0), NameTable.NONE);
        check.due("remove(0, 0)", new NameTable().remove(0, 0), NameTable.NONE);
        check.due("add(0, 0, 0)", new NameTable().add(0, 0, 0), 1);
    }

    /** "They are ordered by their IDs": as longs, below 0 first, and whatever their INDEXES are. */
    private static void orderedByIds(Check check) {
        NameTable x = new NameTable();
        x.add(Long.MAX_VALUE, 0, 1);
        x.add(0, 2, 2);
        x.add(Long.MIN_VALUE, 7, 3);
        x.add(-1, 5, 4);
        check.due("name(0)", x.name(0), Long.MIN_VALUE);
        check.due("name(1)", x.name(1), -1);
        check.due("name(2)", x.name(2), 0);
        check.due("name(3)", x.name(3), Long.MAX_VALUE);
    }

    /** "those of the same by their INDEXES". */
    private static void sameIdsAreOrderedByIndexes(Check check) {
        for (long id : new long[] {Long.MIN_VALUE, 0, Long.MAX_VALUE}) {
            NameTable x = new NameTable();
            x.add(id, 7, 1);
            x.add(id, 0, 2);
            x.add(id, 3, 3);
            check.due("index(0) of " + id, x.index(0), 0);
            check.due("index(1) of " + id, x.index(1), 3);
            check.due("index(2) of " + id, x.index(2), 7);
        }
    }
}
