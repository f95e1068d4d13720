/** What README.md shows and says of the calls' answers: change both together. */
public final class ReadmeTest {
    private static final Check CHECK = new Check();

    public static void main(String[] args) {
        example();
        whetherThereIsACoin();
        CHECK.end();
    }

    private static void example() {
        NameTable table = new NameTable();
        CHECK.due("add(5, 0, 10)", table.add(5, 0, 10), 1);
        CHECK.due("add(5, 0, 9)", table.add(5, 0, 9), NameTable.THERE);
        CHECK.due("some(100, 2, 3, 7)", table.some(100, 2, 3, 7), 3);
        CHECK.due("get(102, 1)", table.get(102, 1), 7);
        CHECK.due("name(0)", table.name(0), 5);
        CHECK.due("index(3)", table.index(3), 2);
        CHECK.due("remove(5, 0)", table.remove(5, 0), 10);
        CHECK.due("take(0)", table.take(0), 7);
        CHECK.due("many()", table.many(), 2);
        CHECK.due("value()", table.value(), 14);
    }

    private static void whetherThereIsACoin() {
        NameTable table = new NameTable();
        table.add(0, 0, 1);
        CHECK.due("name(0), a coin with the ID 0", table.name(0), 0);
        CHECK.due("index(0), a coin with the ID 0", table.index(0), 0);
        CHECK.due("name(1), no coin", table.name(1), 0);
        CHECK.due("index(1), no coin", table.index(1), NameTable.NONE);
    }
}
