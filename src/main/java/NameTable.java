/** Coins by their names: they come, go, are found by name and told in the order of names. */
public final class NameTable {
    public static final int REFUSED = -1, NONE = -2, THERE = -3, FULL = -4;

    private static final int MOST_COINS = 900;
    private static final int INDEXES = 8;
    private static final int MOST_AT_ONCE = 100;

    // 512 + 256 + ... + 1 is 1023, so halving strides from here reach every place up to MOST_COINS.
    private static final int WIDEST_STRIDE = 512;

    // Place k of each row tells of coin k in the order of names; made once, so that no call makes an object.
    private final long[] ids;
    private final int[] indexes;
    private final int[] values;
    private int count;

    public NameTable() {
        ids = new long[MOST_COINS];
        indexes = new int[MOST_COINS];
        values = new int[MOST_COINS];
        count = 0;
    }

    public int add(long id, int index, int value) {
        if (!isIndex(index) || value < 0) {
            return REFUSED;
        }
        int place = placeFor(id, index);
        if (isNamed(place, id, index)) {
            return THERE;
        }
        if (count >= MOST_COINS) {
            return FULL;
        }
        insertAt(place, id, index, value);
        return count;
    }

    public int some(long id, long step, int n, int value) {
        if (n < 1 || n > MOST_AT_ONCE || value < 0) {
            return REFUSED;
        }
        int before = count;
        for (int k = 0; k < n; k++) {
            add(id + k * step, k % INDEXES, value);
        }
        return count - before;
    }

    public int remove(long id, int index) {
        if (!isIndex(index)) {
            return REFUSED;
        }
        int place = placeFor(id, index);
        return isNamed(place, id, index) ? deleteAt(place) : NONE;
    }

    public int take(int k) {
        return isPlace(k) ? deleteAt(k) : NONE;
    }

    public int get(long id, int index) {
        if (!isIndex(index)) {
            return REFUSED;
        }
        int place = placeFor(id, index);
        return isNamed(place, id, index) ? values[place] : NONE;
    }

    public long name(int k) {
        return isPlace(k) ? ids[k] : 0;
    }

    public int index(int k) {
        return isPlace(k) ? indexes[k] : NONE;
    }

    public int many() {
        return count;
    }

    public long value() {
        long sum = 0;
        for (int k = 0; k < count; k++) {
            sum += values[k];
        }
        return sum;
    }

    private static boolean isIndex(int index) {
        return index >= 0 && index < INDEXES;
    }

    private boolean isPlace(int k) {
        return k >= 0 && k < count;
    }

    private boolean isNamed(int place, long id, int index) {
        return isPlace(place) && ids[place] == id && indexes[place] == index;
    }

    private boolean isBefore(int place, long id, int index) {
        return ids[place] < id || (ids[place] == id && indexes[place] < index);
    }

    /** How many coins have names before this one, which is the place where its coin stands or would stand. */
    private int placeFor(long id, int index) {
        int place = 0;
        for (int stride = WIDEST_STRIDE; stride > 0; stride /= 2) {
            int further = place + stride;
            if (further <= count && isBefore(further - 1, id, index)) {
                place = further;
            }
        }
        return place;
    }

    private void insertAt(int place, long id, int index, int value) {
        moveTail(place, place + 1);
        ids[place] = id;
        indexes[place] = index;
        values[place] = value;
        count++;
    }

    private int deleteAt(int place) {
        int gone = values[place];
        moveTail(place + 1, place);
        count--;
        return gone;
    }

    private void moveTail(int from, int to) {
        int length = count - from;
        System.arraycopy(ids, from, ids, to, length);
        System.arraycopy(indexes, from, indexes, to, length);
        System.arraycopy(values, from, values, to, length);
    }
}
