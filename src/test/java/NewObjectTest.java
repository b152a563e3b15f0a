/** Promise 1. */
final class NewObjectTest {
    private static final int GETS_AN_OBJECT = 512;

    public static void main(String[] args) {
        Script script = new Script();
        allBytesAreZero(script);
        objectsAreApart(script);
        script.run("'the heap is empty'", """
            end = 1024
            free 1032 throws
            resize 1032 8 throws
            resize 1032 0 throws
            end = 1024
            allocate 8 = 1032
            end = 1040
            """);
        script.run("an empty heap has no block, whatever lies at its beginning", """
            write 1024 8
            write 1028 1
            free 1032 throws
            write 1028 0
            allocate 8 = 1032
            end = 1040
            """);
        script.run("the stack's end is 65536", """
            stack 65537 = 0
            allocate 60409 = 0
            allocate 60408 = 1032
            end = 61440
            """);
        script.finish();
    }

    private static void allBytesAreZero(Script script) {
        for (int from = 1024; from < 65536; from += GETS_AN_OBJECT) {
            HeapRow heap = new HeapRow();
            for (int a = from; a < from + GETS_AN_OBJECT && a < 65536; a++) {
                script.due("get(" + a + ") of a new object", heap.get(a), 0);
            }
        }
    }

    private static void objectsAreApart(Script script) {
        HeapRow one = new HeapRow();
        one.allocate(8);
        one.put(2000, 7);
        one.stack(2000);
        HeapRow other = new HeapRow();
        script.due("end() of the other object", other.end(), 1024);
        script.due("get(2000) of the other object", other.get(2000), 0);
        script.due("get(1024) of the other object", other.get(1024), 0);
        script.due("allocate(60408) of the other object", other.allocate(60408), 1032);
        script.due("end() of the one object", one.end(), 1040);
    }
}
