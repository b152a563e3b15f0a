/** Promises 7 and 8. */
final class BytesTest {
    private static final int BYTES_AN_OBJECT = 256;

    public static void main(String[] args) {
        Script script = new Script();
        everyByte(script);
        script.run("v & 255, and what it was", """
            put 1024 7 = 0
            put 1024 256 = 7
            get 1024 = 0
            put 1024 -1 = 0
            get 1024 = 255
            put 1024 300 = 255
            get 1024 = 44
            put 1024 -2147483648 = 44
            put 1024 2147483647 = 0
            put 1024 0 = 255
            get 1024 = 0
            """);
        script.run("the bytes beside it stay", """
            put 2000 255 = 0
            get 1999 = 0
            get 2001 = 0
            put 2001 255 = 0
            put 1999 255 = 0
            put 2000 0 = 255
            get 1999 = 255
            get 2000 = 0
            get 2001 = 255
            """);
        script.run("there is none", """
            put 1023 1 = -1
            put 65536 1 = -1
            put 0 1 = -1
            put -1 1 = -1
            put -2147483648 1 = -1
            put 2147483647 1 = -1
            put -4294966272 1 = 0
            get 1024 = 1
            get 1023 = -1
            get 65536 = -1
            get 0 = -1
            get -1 = -1
            get -2147483648 = -1
            get 2147483647 = -1
            put 65535 1 = 0
            get 65535 = 1
            """);
        script.run("headers are bytes as others are", """
            allocate 300 = 1032
            get 1024 = 48
            get 1025 = 1
            put 1025 0 = 1
            get 1025 = 0
            end = 1336
            """);
        valuesPut(script);
        noSuchByte(script);
        script.finish();
    }

    private static void everyByte(Script script) {
        for (int from = 1024; from < 65536; from += BYTES_AN_OBJECT) {
            HeapRow heap = new HeapRow();
            for (int a = from; a < from + BYTES_AN_OBJECT; a++) {
                script.due("put(" + a + ", ..)", heap.put(a, a * 7 + a / 256), 0);
            }
            for (int a = from; a < from + BYTES_AN_OBJECT; a++) {
                script.due("get(" + a + ")", heap.get(a), a * 7 + a / 256 & 255);
            }
        }
    }

    private static void valuesPut(Script script) {
        int[] values = {0, 1, 127, 128, 129, 254, 255, 256, 257, 511, 512, 65535, 65536, 2147483647, -2147483648, -1,
            -128, -129, -255, -256, -257};
        int[] bytes = {0, 1, 127, 128, 129, 254, 255, 0, 1, 255, 0, 255, 0, 255, 0, 255, 128, 127, 1, 0, 255};
        int[] places = {1024, 1025, 30001, 65534, 65535};
        for (int a : places) {
            for (int k = 0; k < values.length; k++) {
                script.run("'becomes v & 255: what it was'", """
                    put %d 77 = 0
                    put %d %d = 77
                    get %d = %d
                    put %d 5 = %d
                    get %d = 5
                    """.formatted(a, a, values[k], a, bytes[k], a, bytes[k], a));
            }
        }
    }

    private static void noSuchByte(Script script) {
        String[] addresses = {"1023", "1022", "0", "1", "-1", "-1024", "-65535", "65536", "65537", "66560", "131071",
            "2147483647", "-2147483648", "-2147482624", "-2147418113", "-64512"};
        for (String a : addresses) {
            script.changesNothing("put(): '-1 if there is none': " + a, "", "put " + a + " 5 = -1\n");
            script.changesNothing("get(): '-1 if there is none': " + a, "", "get " + a + " = -1\n");
        }
        String[] places = {"1024", "1025", "65534", "65535"};
        for (String a : places) {
            script.run("there is one: " + a, """
                get %s = 0
                put %s 255 = 0
                get %s = 255
                """.replace("%s", a));
        }
        script.run("neither the heap's end nor the stack's end is looked at", """
            allocate 8 = 1032
            stack 2000 = 1
            put 1039 1 = 0
            put 1040 2 = 0
            put 1041 3 = 0
            put 1999 4 = 0
            put 2000 5 = 0
            put 2001 6 = 0
            get 1039 = 1
            get 1040 = 2
            get 1041 = 3
            get 1999 = 4
            get 2000 = 5
            get 2001 = 6
            """);
    }
}
