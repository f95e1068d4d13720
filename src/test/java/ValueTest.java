/** Promise 10. */
public final class ValueTest {
    public static void main(String[] args) {
        Check check = new Check();
        NameTable x = new NameTable();
        x.add(1, 1, 10);
        x.add(0, 1, 5);
        check.due("value() of two", x.value(), 15);
        x.add(1, 1, 100);
        x.add(1, 9, 100);
        x.add(3, 0, -100);
        check.due("value() after refusals", x.value(), 15);
        x.some(1, 0, 8, 2);
        check.due("value() after some", x.value(), 29);
        x.remove(1, 1);
        check.due("value() after remove", x.value(), 19);
        x.take(0);
        check.due("value() after take", x.value(), 14);
        beyondInt(check);
        check.end();
    }

    private static void beyondInt(Check check) {
        NameTable x = new NameTable();
        for (int k = 0; k < 9; k++) {
            x.some(1000L * k, 1, 100, Integer.MAX_VALUE);
        }
        check.due("value() of the most", x.value(), 900L * Integer.MAX_VALUE);
        x.add(-1, 0, 1);
        check.due("value() after FULL", x.value(), 900L * Integer.MAX_VALUE);
        x.take(899);
        check.due("value() of the most but one", x.value(), 899L * Integer.MAX_VALUE);
    }
}
