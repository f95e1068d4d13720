/** Promise 9. */
public final class ManyTest {
    public static void main(String[] args) {
        Check check = new Check();
        NameTable x = new NameTable();
        x.add(1, 1, 0);
        check.due("many() of one", x.many(), 1);
        x.add(1, 1, 0);
        x.add(1, 8, 0);
        x.add(1, 0, -1);
        check.due("many() after refusals", x.many(), 1);
        x.some(1, 0, 8, 0);
        check.due("many() after some", x.many(), 8);
        x.remove(1, 3);
        x.remove(1, 3);
        check.due("many() after remove", x.many(), 7);
        x.take(6);
        x.take(6);
        check.due("many() after take", x.many(), 6);
        full(check);
        check.end();
    }

    private static void full(Check check) {
        NameTable x = Check.full();
        x.add(-1, 0, 0);
        x.some(-1000, 1, 100, 0);
        check.due("many() of all", x.many(), 900);
        for (int k = 899; k >= 660; k--) {
            x.take(k / 2);
            check.due("many() with " + k, x.many(), k);
        }
    }
}
