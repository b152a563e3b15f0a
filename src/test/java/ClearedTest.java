/** Promise 3. */
final class ClearedTest {
    public static void main(String[] args) {
        Script script = new Script();
        clearing(script);
        products(script);
        outsideTheMemory(script);
        script.finish();
    }

    private static void clearing(Script script) {
        script.run("takes n times each", """
            cleared 3 5 = 1032
            number 1024 = 16
            number 1028 = 1
            end = 1048
            cleared 4 4 = 1056
            end = 1072
            cleared 0 7 = 1080
            cleared 7 0 = 1096
            end = 1104
            """);
        script.run("makes just these bytes 0", """
            allocate 16 = 1032
            write 1032 4294967295
            write 1036 4294967295
            write 1040 4294967295
            write 1044 4294967295
            allocate 8 = 1056
            free 1032 = 1
            cleared 3 3 = 1032
            number 1032 = 0
            number 1036 = 0
            get 1040 = 0
            get 1041 = 255
            get 1047 = 255
            number 1048 = 8
            number 1052 = 1
            free 1032 = 1
            cleared 2 8 = 1032
            number 1040 = 0
            number 1044 = 0
            number 1048 = 8
            """);
        script.run("clears a new block at the end", """
            write 1036 4294967295
            write 1040 4294967295
            cleared 1 8 = 1032
            number 1036 = 0
            number 1040 = 4294967295
            """);
        script.run("no bytes, nothing to clear", """
            put 1032 9 = 0
            cleared 0 0 = 1032
            get 1032 = 9
            """);
        script.run("nothing could be taken", """
            put 1024 9 = 0
            cleared 60409 1 = 0
            get 1024 = 9
            end = 1024
            """);
    }

    private static void products(Script script) {
        script.run("above 480000 nothing is done, even with a block for it", """
            allocate 8 = 1032
            write 1024 4294967288
            write 1028 0
            cleared 480001 1 = 0
            cleared 1 480001 = 0
            cleared 693 693 = 0
            cleared -1 1 = 0
            cleared 2 -1 = 0
            number 1024 = 4294967288
            number 1028 = 0
            end = 1040
            """);
        script.run("products that wrap in 32 or 64 bits", """
            cleared 65536 65536 = 0
            cleared 3 1431655766 = 0
            cleared -2147483648 2 = 0
            cleared -2147483648 -2147483648 = 0
            cleared -1 -1 = 0
            cleared -1 -2147483648 = 0
            cleared -2 2147483647 = 0
            end = 1024
            """);
        script.run("n without sign, times 0", """
            cleared -1 0 = 1032
            cleared 0 -1 = 1048
            end = 1056
            """);
    }

    private static void outsideTheMemory(Script script) {
        script.run("clears up to the last byte", """
            allocate 8 = 1032
            write 1024 64504
            write 1028 0
            put 1032 8 = 0
            put 65535 9 = 0
            cleared 64504 1 = 1032
            get 1032 = 0
            get 65535 = 0
            """);
        script.run("ends where the memory does; what was done stays", """
            allocate 8 = 1032
            write 1024 480000
            write 1028 0
            put 1032 8 = 0
            put 65535 9 = 0
            cleared 480 1000 throws
            number 1024 = 480000
            number 1028 = 1
            get 1032 = 0
            get 65535 = 0
            """);
        script.run("a cut outside the memory comes before the clearing", """
            allocate 8 = 1032
            write 1024 480000
            write 1028 0
            put 1032 8 = 0
            cleared 1 400000 throws
            get 1032 = 8
            number 1028 = 0
            """);
    }
}
