/** What the tests share: they tell every answer that is not due, and end with exit code 1 if there was one. */
final class Check {
    private int wrong = 0;

    void due(String call, long got, long want) {
        if (got != want) {
            wrong++;
            System.out.println(call + " answered " + got + ", due is " + want);
        }
    }

    void end() {
        System.out.println(wrong == 0 ? "all answers are as due" : wrong + " answers are not as due");
        if (wrong != 0) {
            System.exit(1);
        }
    }

    /**
     * 900 coins, coin k with the ID 10 * k, the INDEX fullIndex(k) and the VALUE k / 100.
     * They come by some, since an object's answers are promised for 512 calls alone.
     */
    static NameTable full() {
        NameTable x = new NameTable();
        for (int hundred = 0; hundred < 9; hundred++) {
            x.some(1000L * hundred, 10, 100, hundred);
        }
        return x;
    }

    static int fullIndex(int k) {
        return k % 100 % 8;
    }
}
