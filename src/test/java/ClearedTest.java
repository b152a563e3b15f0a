/** Promise 3. */
final class ClearedTest {
    public static void main(String[] args) {
        Script script = new Script();
        clearing(script);
        products(script);
        outsideTheMemory(script);
        bothWithoutSign(script);
        upwards(script);
        limitOf480000(script);
        script.finish();
    }

    private static void clearing(Script script) {
        script.run("takes n times each", """
            cleared 3 5 = 1032
            number 1024 = 16
            number 1028 = 1
            end = 1048
            cleared 4 4 = 1056
            end = 1072
            cleared 0 7 = 1080
            cleared 7 0 = 1096
            end = 1104
            """);
        script.run("makes just these bytes 0", """
            allocate 16 = 1032
            write 1032 4294967295
            write 1036 4294967295
            write 1040 4294967295
            write 1044 4294967295
            allocate 8 = 1056
            free 1032 = 1
            cleared 3 3 = 1032
            number 1032 = 0
            number 1036 = 0
            get 1040 = 0
            get 1041 = 255
            get 1047 = 255
            number 1048 = 8
            number 1052 = 1
            free 1032 = 1
            cleared 2 8 = 1032
            number 1040 = 0
            number 1044 = 0
            number 1048 = 8
            """);
        script.run("clears a new block at the end", """
            write 1036 4294967295
            write 1040 4294967295
            cleared 1 8 = 1032
            number 1036 = 0
            number 1040 = 4294967295
            """);
        script.run("no bytes, nothing to clear", """
            put 1032 9 = 0
            cleared 0 0 = 1032
            get 1032 = 9
            """);
        script.run("nothing could be taken", """
            put 1024 9 = 0
            cleared 60409 1 = 0
            get 1024 = 9
            end = 1024
            """);
    }

    private static void products(Script script) {
        script.run("above 480000 nothing is done, even with a block for it", """
            allocate 8 = 1032
            write 1024 4294967288
            write 1028 0
            cleared 480001 1 = 0
            cleared 1 480001 = 0
            cleared 693 693 = 0
            cleared -1 1 = 0
            cleared 2 -1 = 0
            number 1024 = 4294967288
            number 1028 = 0
            end = 1040
            """);
        script.run("products that wrap in 32 or 64 bits", """
            cleared 65536 65536 = 0
            cleared 3 1431655766 = 0
            cleared -2147483648 2 = 0
            cleared -2147483648 -2147483648 = 0
            cleared -1 -1 = 0
            cleared -1 -2147483648 = 0
            cleared -2 2147483647 = 0
            end = 1024
            """);
        script.run("n without sign, times 0", """
            cleared -1 0 = 1032
            cleared 0 -1 = 1048
            end = 1056
            """);
    }

    private static void outsideTheMemory(Script script) {
        script.run("clears up to the last byte", """
            allocate 8 = 1032
            write 1024 64504
            write 1028 0
            put 1032 8 = 0
            put 65535 9 = 0
            cleared 64504 1 = 1032
            get 1032 = 0
            get 65535 = 0
            """);
        script.run("ends where the memory does; what was done stays", """
            allocate 8 = 1032
            write 1024 480000
            write 1028 0
            put 1032 8 = 0
            put 65535 9 = 0
            cleared 480 1000 throws
            number 1024 = 480000
            number 1028 = 1
            get 1032 = 0
            get 65535 = 0
            """);
        script.run("a cut outside the memory comes before the clearing", """
            allocate 8 = 1032
            write 1024 480000
            write 1028 0
            put 1032 8 = 0
            cleared 1 400000 throws
            get 1032 = 8
            number 1028 = 0
            """);
    }

    private static void bothWithoutSign(Script script) {
        // A free block as large as any: a product read too small would be taken from it.
        String before = """
            allocate 8 = 1032
            write 1024 4294967288
            write 1028 0
            put 1032 9 = 0
            """;
        script.changesNothing("'(both without sign)'", before, """
            cleared -1 -1 = 0
            cleared -2 -4 = 0
            cleared -1 1 = 0
            cleared 1 -1 = 0
            cleared -8 1 = 0
            cleared 1 -8 = 0
            cleared -1 -480000 = 0
            cleared -480000 -1 = 0
            cleared 2147483647 2147483647 = 0
            cleared -2147483648 2147483647 = 0
            """);
        script.changesNothing("a product that wraps to little in 32 or 64 bits", before, """
            cleared 65536 65536 = 0
            cleared 65536 65537 = 0
            cleared 65535 65537 = 0
            cleared 2 -2147483648 = 0
            cleared -2147483648 2 = 0
            cleared 3 -1431655765 = 0
            cleared 3 1431655768 = 0
            cleared -2147483648 -2147483648 = 0
            cleared -1 -2147483648 = 0
            cleared -2147483647 -2147483648 = 0
            """);
        script.run("'(both without sign)': times 0, 1 and 2", """
            cleared -1 0 = 1032
            cleared 0 -1 = 1048
            cleared -2147483648 0 = 1064
            cleared 0 0 = 1080
            cleared 1 1 = 1096
            cleared 2 1 = 1112
            cleared 1 2 = 1128
            cleared 9 1 = 1144
            cleared 1 9 = 1168
            end = 1184
            """);
    }

    private static void upwards(Script script) {
        String before = """
            allocate 8 = 1032
            write 1028 0
            put 1032 5 = 0
            put 1033 6 = 0
            put 30000 7 = 0
            put 65534 8 = 0
            put 65535 9 = 0
            """;
        script.run("'byte by byte upwards': all are 0 before the one that there is not", before + """
            write 1024 100000
            cleared 1000 100 throws
            get 1032 = 0
            get 1033 = 0
            get 30000 = 0
            get 65534 = 0
            get 65535 = 0
            number 1024 = 100000
            number 1028 = 1
            """);
        script.run("'makes them 0': from the first to the last, and none beside", """
            allocate 24 = 1032
            allocate 8 = 1064
            free 1032 = 1
            write 1032 4294967295
            write 1040 4294967295
            write 1044 4294967295
            write 1048 4294967295
            cleared 17 1 = 1032
            get 1031 = 0
            get 1028 = 1
            number 1032 = 0
            number 1040 = 0
            number 1044 = 0
            get 1048 = 0
            get 1049 = 255
            get 1051 = 255
            number 1056 = 8
            """);
    }

    private static void limitOf480000(Script script) {
        String sentence = "'0 and nothing else if the product is above 480000': ";
        String before = """
            allocate 8 = 1032
            write 1024 480008
            write 1028 0
            put 1032 5 = 0
            """;
        // Not above it the block is taken, and the clearing comes to the memory's end.
        String[] notAbove = {"479999 1", "1 479999", "480000 1", "1 480000", "800 600", "600 800"};
        for (String product : notAbove) {
            script.run(sentence + product, before + """
                cleared %s throws
                number 1024 = 480008
                number 1028 = 1
                get 1032 = 0
                """.formatted(product));
        }
        script.changesNothing(sentence + "above it", before, """
            cleared 480001 1 = 0
            cleared 1 480001 = 0
            cleared 240001 2 = 0
            cleared 693 693 = 0
            cleared 480008 1 = 0
            """);
    }
}
