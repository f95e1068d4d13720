import java.util.ArrayList;
import java.util.List;
import java.util.Random;
import java.util.TreeMap;

/** All promises together: long runs of calls, each answer held against a plain model on a TreeMap. */
public final class ModelTest {
    private record Name(long id, int index) implements Comparable<Name> {
        @Override
        public int compareTo(Name other) {
            int byId = Long.compare(id, other.id);
            return byId != 0 ? byId : Integer.compare(index, other.index);
        }
    }

    private static final int RUNS = 400;
    // Together at most 512, the calls that the document allows an object.
    private static final int CALLS = 374;
    private static final int PLACES_AT_END = 45;
    private static final long[] EDGE_IDS = {Long.MIN_VALUE, Long.MAX_VALUE, -1, 0, 1, 1L << 32, -(1L << 32)};

    private final Check check;
    private final Random random;
    private final NameTable table = new NameTable();
    private final TreeMap<Name, Integer> model = new TreeMap<>();
    private final int run;
    private final int someShare;

    private ModelTest(Check check, int run) {
        this.check = check;
        this.run = run;
        // A fixed seed for each run, so that a fault comes again.
        this.random = new Random(run);
        // Some runs fill up at once, others stay small.
        this.someShare = run % 4 * 10;
    }

    public static void main(String[] args) {
        Check check = new Check();
        for (int run = 0; run < RUNS; run++) {
            ModelTest test = new ModelTest(check, run);
            for (int call = 0; call < CALLS; call++) {
                test.oneCall(call);
            }
            test.lastLook();
        }
        check.end();
    }

    private void oneCall(int call) {
        String at = "run " + run + ", call " + call + ": ";
        if (random.nextInt(100) < someShare) {
            callSome(at);
            return;
        }
        switch (random.nextInt(9)) {
            case 0, 1 -> callAdd(at);
            case 2 -> callRemove(at);
            case 3 -> callTake(at);
            case 4 -> callGet(at);
            case 5 -> callName(at);
            case 6 -> callIndex(at);
            case 7 -> check.due(at + "many()", table.many(), model.size());
            default -> check.due(at + "value()", table.value(), sum());
        }
    }

    private void callAdd(String at) {
        Name name = anyName();
        int value = anyValue();
        String call = at + "add(" + name.id + ", " + name.index + ", " + value + ")";
        check.due(call, table.add(name.id, name.index, value), modelAdd(name, value));
    }

    private void callSome(String at) {
        long id = anyId();
        long step = random.nextInt(4) == 0 ? random.nextLong() : random.nextInt(7) - 3;
        int n = random.nextInt(20) == 0 ? random.nextInt(300) - 100 : 1 + random.nextInt(100);
        int value = anyValue();
        long due = 0;
        if (n < 1 || n > 100 || value < 0) {
            due = NameTable.REFUSED;
        } else {
            for (int k = 0; k < n; k++) {
                due += modelAdd(new Name(id + k * step, k % 8), value) > 0 ? 1 : 0;
            }
        }
        String call = at + "some(" + id + ", " + step + ", " + n + ", " + value + ")";
        check.due(call, table.some(id, step, n, value), due);
    }

    private void callRemove(String at) {
        Name name = anyName();
        long due = modelGet(name);
        model.remove(name);
        check.due(at + "remove(" + name.id + ", " + name.index + ")", table.remove(name.id, name.index), due);
    }

    private void callTake(String at) {
        int k = anyPlace();
        Name name = nameAt(k);
        long due = name == null ? NameTable.NONE : model.remove(name);
        check.due(at + "take(" + k + ")", table.take(k), due);
    }

    private void callGet(String at) {
        Name name = anyName();
        check.due(at + "get(" + name.id + ", " + name.index + ")", table.get(name.id, name.index), modelGet(name));
    }

    private void callName(String at) {
        int k = anyPlace();
        Name name = nameAt(k);
        check.due(at + "name(" + k + ")", table.name(k), name == null ? 0 : name.id);
    }

    private void callIndex(String at) {
        int k = anyPlace();
        Name name = nameAt(k);
        check.due(at + "index(" + k + ")", table.index(k), name == null ? NameTable.NONE : name.index);
    }

    private void lastLook() {
        String at = "run " + run + ", at the end: ";
        check.due(at + "many()", table.many(), model.size());
        check.due(at + "value()", table.value(), sum());
        for (int place = 0; place < PLACES_AT_END && !model.isEmpty(); place++) {
            int k = random.nextInt(model.size());
            Name name = nameAt(k);
            check.due(at + "name(" + k + ")", table.name(k), name.id);
            check.due(at + "index(" + k + ")", table.index(k), name.index);
            check.due(at + "get of coin " + k, table.get(name.id, name.index), model.get(name));
        }
    }

    private int modelAdd(Name name, int value) {
        if (name.index < 0 || name.index > 7 || value < 0) {
            return NameTable.REFUSED;
        }
        if (model.containsKey(name)) {
            return NameTable.THERE;
        }
        if (model.size() == 900) {
            return NameTable.FULL;
        }
        model.put(name, value);
        return model.size();
    }

    private long modelGet(Name name) {
        if (name.index < 0 || name.index > 7) {
            return NameTable.REFUSED;
        }
        return model.getOrDefault(name, NameTable.NONE);
    }

    private long sum() {
        long sum = 0;
        for (int value : model.values()) {
            sum += value;
        }
        return sum;
    }

    private Name nameAt(int k) {
        List<Name> names = new ArrayList<>(model.keySet());
        return k >= 0 && k < names.size() ? names.get(k) : null;
    }

    private Name anyName() {
        Name there = nameAt(anyPlace());
        if (there != null && random.nextBoolean()) {
            return there;
        }
        return new Name(anyId(), random.nextInt(10) - 1);
    }

    private long anyId() {
        return switch (random.nextInt(4)) {
            case 0 -> EDGE_IDS[random.nextInt(EDGE_IDS.length)];
            case 1 -> random.nextLong();
            default -> random.nextInt(40) - 20;
        };
    }

    private int anyValue() {
        return random.nextInt(4) == 0 ? random.nextInt() : random.nextInt(100);
    }

    private int anyPlace() {
        return random.nextInt(model.size() + 3) - 1;
    }
}
