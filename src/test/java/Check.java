/** What the tests share: they tell every answer that is not due, and end with exit code 1 if there was one. */
final class Check {
    private int wrong = 0;

    void due(String call, long got, long want) {
        if (got != want) {
            wrong++;
            System.out.println(call + " answered " + got + ", due is " + want);
        }
    }

    /** Holds what told answers after a call against what it answered before. */
    void unchanged(String call, NameTable x, String before) {
        String after = told(x);
        if (!after.equals(before)) {
            wrong++;
            System.out.println(call + " changed " + before + " to " + after);
        }
    }

    /**
     * What an object tells of itself, in at most 122 calls: of few coins every one, of many the first, the last and
     * some between them.
     */
    static String told(NameTable x) {
        int many = x.many();
        StringBuilder text = new StringBuilder();
        text.append(many).append(" coins of ").append(x.value()).append(':');
        int stride = Math.max(1, many / 20);
        for (int k = 0; k < many; k += stride) {
            text.append(toldCoin(x, k));
        }
        return text.append(toldCoin(x, many - 1)).toString();
    }

    private static String toldCoin(NameTable x, int k) {
        long id = x.name(k);
        int index = x.index(k);
        return " (" + id + ", " + index + ")=" + x.get(id, index);
    }

    void end() {
        System.out.println(wrong == 0 ? "all answers are as due" : wrong + " answers are not as due");
        if (wrong != 0) {
            System.exit(1);
        }
    }

    /**
     * 900 coins, coin k with the ID 10 * k, the INDEX fullIndex(k) and the VALUE k / 100.
     * They come by some, since an object's answers are promised for 512 calls alone.
     */
    static NameTable full() {
        NameTable x = new NameTable();
        for (int hundred = 0; hundred < 9; hundred++) {
            x.some(1000L * hundred, 10, 100, hundred);
        }
        return x;
    }

    static int fullIndex(int k) {
        return k % 100 % 8;
    }
}
