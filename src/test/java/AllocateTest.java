/** Promise 2, and with it what TAKE means. */
final class AllocateTest {
    public static void main(String[] args) {
        Script script = new Script();
        newBlocks(script);
        freeBlocks(script);
        cutting(script);
        limits(script);
        withoutSign(script);
        outsideTheMemory(script);
        strangeHeaders(script);
        script.finish();
    }

    private static void newBlocks(Script script) {
        script.run("'Takes n bytes': from the address told on they are the block's own, no header's", """
            allocate 8 = 1032
            allocate 8 = 1048
            write 1032 4294967295
            write 1036 4294967295
            number 1024 = 8
            number 1028 = 1
            number 1032 = 4294967295
            number 1036 = 4294967295
            number 1040 = 8
            number 1044 = 1
            free 1048 = 1
            free 1032 = 1
            end = 1024
            """);
        script.run("rounded up to a multiple of 8, at least 8", """
            allocate 0 = 1032
            number 1024 = 8
            number 1028 = 1
            end = 1040
            allocate 1 = 1048
            end = 1056
            allocate 8 = 1064
            end = 1072
            allocate 9 = 1080
            number 1072 = 16
            number 1076 = 1
            end = 1096
            allocate 16 = 1104
            end = 1120
            allocate 17 = 1128
            number 1120 = 24
            end = 1152
            """);
        script.run("lowest byte first", """
            allocate 772 = 1032
            get 1024 = 8
            get 1025 = 3
            get 1026 = 0
            get 1027 = 0
            get 1028 = 1
            get 1029 = 0
            """);
        script.run("a new header is written over what lay there", """
            write 1024 4294967295
            write 1028 4294967295
            put 1032 5 = 0
            allocate 8 = 1032
            number 1024 = 8
            number 1028 = 1
            get 1032 = 5
            """);
    }

    private static void freeBlocks(Script script) {
        script.run("the first free block that is as large", """
            allocate 8 = 1032
            allocate 8 = 1048
            allocate 32 = 1064
            allocate 8 = 1104
            allocate 32 = 1120
            allocate 8 = 1160
            free 1032 = 1
            free 1064 = 1
            free 1120 = 1
            allocate 25 = 1064
            allocate 25 = 1120
            allocate 25 = 1176
            allocate 8 = 1032
            end = 1208
            """);
        script.run("a second number other than 1 is free", """
            allocate 8 = 1032
            write 1028 2
            allocate 8 = 1032
            number 1028 = 1
            write 1028 257
            allocate 8 = 1032
            number 1028 = 1
            write 1028 16777217
            allocate 8 = 1032
            write 1028 0
            allocate 8 = 1032
            allocate 8 = 1048
            end = 1056
            """);
        script.run("a free block is taken though the stack is near", """
            allocate 8 = 1032
            allocate 8 = 1048
            free 1032 = 1
            stack 1056 = 1
            allocate 9 = 0
            allocate 8 = 1032
            allocate 8 = 0
            """);
    }

    private static void cutting(Script script) {
        script.run("16 larger is cut", """
            allocate 32 = 1032
            allocate 8 = 1072
            free 1032 = 1
            put 1052 200 = 0
            allocate 16 = 1032
            number 1024 = 16
            number 1028 = 1
            number 1048 = 8
            number 1052 = 0
            allocate 8 = 1056
            number 1048 = 8
            number 1052 = 1
            end = 1080
            """);
        script.run("8 larger is not cut", """
            allocate 32 = 1032
            allocate 8 = 1072
            free 1032 = 1
            allocate 24 = 1032
            number 1024 = 32
            number 1028 = 1
            number 1056 = 0
            number 1060 = 0
            """);
        script.run("15 larger is not cut", """
            allocate 40 = 1032
            write 1024 31
            write 1028 0
            allocate 16 = 1032
            number 1024 = 31
            number 1028 = 1
            number 1048 = 0
            """);
        script.run("17 larger is cut", """
            allocate 40 = 1032
            write 1024 33
            write 1028 0
            allocate 16 = 1032
            number 1024 = 16
            number 1048 = 9
            """);
    }

    private static void limits(Script script) {
        script.run("up to 4096 below the stack's end", """
            allocate 60409 = 0
            end = 1024
            number 1024 = 0
            allocate 60408 = 1032
            end = 61440
            allocate 0 = 0
            end = 61440
            """);
        script.run("the stack's end moves that limit", """
            stack 5135 = 1
            allocate 1 = 0
            stack 5136 = 1
            allocate 1 = 1032
            allocate 1 = 0
            stack 5152 = 1
            allocate 1 = 1048
            end = 1056
            """);
        script.run("a stack's end below 4096 leaves nothing", """
            stack 4095 = 1
            allocate 0 = 0
            stack 1024 = 1
            allocate 0 = 0
            end = 1024
            """);
        script.run("480000 and more from the end on", """
            allocate 480000 = 0
            allocate 480001 = 0
            allocate 2147483647 = 0
            end = 1024
            """);
    }

    private static void withoutSign(Script script) {
        script.run("a free block gives more than 480000 too", """
            allocate 8 = 1032
            write 1024 480008
            write 1028 0
            allocate 480001 = 1032
            number 1024 = 480008
            number 1028 = 1
            """);
        script.run("n and a size have no sign", """
            allocate 8 = 1032
            write 1024 4294967288
            write 1028 0
            allocate -8 = 1032
            number 1024 = 4294967288
            number 1028 = 1
            allocate -8 = 0
            """);
        script.run("n rounded up to 2^32 is more than any size", """
            allocate 8 = 1032
            write 1024 4294967295
            write 1028 0
            allocate -1 = 0
            allocate -7 = 0
            number 1024 = 4294967295
            number 1028 = 0
            end = 1040
            """);
        script.run("a negative n is no small one", """
            allocate 8 = 1032
            allocate 8 = 1048
            free 1032 = 1
            allocate -1 = 0
            allocate -2147483648 = 0
            end = 1056
            """);
    }

    private static void outsideTheMemory(Script script) {
        script.run("a rest far outside leaves all as it was", """
            allocate 8 = 1032
            write 1024 4294967295
            write 1028 0
            allocate 100000 throws
            allocate -100 throws
            number 1024 = 4294967295
            number 1028 = 0
            end = 1040
            """);
        script.run("the last place for a rest's header", """
            allocate 8 = 1032
            write 1024 4294967295
            write 1028 0
            write 65532 7
            allocate 64496 = 1032
            number 65528 = 4294902791
            number 65532 = 0
            number 1024 = 64496
            number 1028 = 1
            """);
        script.run("a rest's size stays where its second number has no place", """
            allocate 24 = 1032
            write 1024 4
            write 1036 4294967295
            write 1040 0
            allocate 64488 throws
            number 65532 = 4294902799
            number 1036 = 4294967295
            number 1040 = 0
            end = 1056
            """);
        script.run("of a number all four bytes are looked at first", """
            allocate 24 = 1032
            write 1024 5
            write 1037 4294967295
            write 1041 0
            put 65533 77 = 0
            put 65535 78 = 0
            allocate 64488 throws
            get 65533 = 77
            get 65534 = 0
            get 65535 = 78
            number 1037 = 4294967295
            number 1041 = 0
            """);
    }

    private static void strangeHeaders(Script script) {
        script.run("the next block's address does not wrap", """
            allocate 8 = 1032
            write 1024 4294967288
            allocate 8 = 1048
            end = 1056
            write 1024 4294967272
            allocate 8 = 1064
            end = 1072
            """);
        script.run("blocks of size 0", """
            allocate 8 = 1032
            write 1024 0
            write 1028 0
            allocate 1 = 1048
            number 1028 = 0
            """);
        script.run("a header that begins just below the end counts", """
            allocate 8 = 1032
            write 1024 7
            write 1039 8
            write 1043 0
            allocate 8 = 1047
            number 1039 = 8
            number 1043 = 1
            end = 1040
            """);
        script.run("one that begins at the end does not", """
            allocate 8 = 1032
            write 1040 16
            allocate 8 = 1048
            end = 1056
            """);
        script.run("all of the heap as headers alone", """
            allocate 60408 = 1032
            write 1024 0
            write 1028 0
            allocate 8 = 0
            write 61432 8
            allocate 8 = 61440
            number 61436 = 1
            end = 61440
            """);
    }
}
