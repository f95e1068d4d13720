/**
 * No call throws or fails to end, for any arguments in any state, an object beyond its 512th call too: what is called
 * there answers freely, so only a throw or .ci/run's time limit fails this test.
 */
public final class AnyArgumentsTest {
    private static final int[] INTS = {Integer.MIN_VALUE, -900, -1, 0, 1, 7, 8, 100, 101, 512, 898, 899, 900, 901,
        1023, 1024, Integer.MAX_VALUE};
    private static final long[] LONGS = {Long.MIN_VALUE, -1, 0, 1, 4500, 1L << 32, Long.MAX_VALUE};

    public static void main(String[] args) {
        Check check = new Check();
        NameTable empty = new NameTable();
        tellAll(empty);
        check.due("many() of none, after 155 calls", empty.many(), 0);
        NameTable full = Check.full();
        tellAll(full);
        changeAll(empty);
        changeAll(full);
        takeAll(full);
        tellAll(full);
        changeAll(full);
        check.end();
    }

    private static void tellAll(NameTable x) {
        for (int k : INTS) {
            x.name(k);
            x.index(k);
            for (long id : LONGS) {
                x.get(id, k);
            }
        }
        x.many();
        x.value();
    }

    private static void changeAll(NameTable x) {
        for (int k : INTS) {
            for (long id : LONGS) {
                for (long step : LONGS) {
                    x.some(id, step, k, 1);
                    x.some(id, step, 100, k);
                }
                x.add(id, k, 1);
                x.add(id, 0, k);
                x.remove(id, k);
            }
            x.take(k);
        }
    }

    private static void takeAll(NameTable x) {
        for (int k = 0; k < 901; k++) {
            x.take(0);
        }
    }
}
