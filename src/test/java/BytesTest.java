/** Promises 7 and 8. */
final class BytesTest {
    private static final int BYTES_AN_OBJECT = 256;

    public static void main(String[] args) {
        Script script = new Script();
        everyByte(script);
        script.run("v & 255, and what it was", """
            put 1024 7 = 0
            put 1024 256 = 7
            get 1024 = 0
            put 1024 -1 = 0
            get 1024 = 255
            put 1024 300 = 255
            get 1024 = 44
            put 1024 -2147483648 = 44
            put 1024 2147483647 = 0
            put 1024 0 = 255
            get 1024 = 0
            """);
        script.run("the bytes beside it stay", """
            put 2000 255 = 0
            get 1999 = 0
            get 2001 = 0
            put 2001 255 = 0
            put 1999 255 = 0
            put 2000 0 = 255
            get 1999 = 255
            get 2000 = 0
            get 2001 = 255
            """);
        script.run("there is none", """
            put 1023 1 = -1
            put 65536 1 = -1
            put 0 1 = -1
            put -1 1 = -1
            put -2147483648 1 = -1
            put 2147483647 1 = -1
            put -4294966272 1 = 0
            get 1024 = 1
            get 1023 = -1
            get 65536 = -1
            get 0 = -1
            get -1 = -1
            get -2147483648 = -1
            get 2147483647 = -1
            put 65535 1 = 0
            get 65535 = 1
            """);
        script.run("headers are bytes as others are", """
            allocate 300 = 1032
            get 1024 = 48
            get 1025 = 1
            put 1025 0 = 1
            get 1025 = 0
            end = 1336
            """);
        script.finish();
    }

    private static void everyByte(Script script) {
        for (int from = 1024; from < 65536; from += BYTES_AN_OBJECT) {
            HeapRow heap = new HeapRow();
            for (int a = from; a < from + BYTES_AN_OBJECT; a++) {
                script.due("put(" + a + ", ..)", heap.put(a, a * 7 + a / 256), 0);
            }
            for (int a = from; a < from + BYTES_AN_OBJECT; a++) {
                script.due("get(" + a + ")", heap.get(a), a * 7 + a / 256 & 255);
            }
        }
    }
}
