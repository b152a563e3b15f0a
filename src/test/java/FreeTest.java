/** Promise 5. */
final class FreeTest {
    public static void main(String[] args) {
        Script script = new Script();
        wrongAddresses(script);
        joining(script);
        endComesDown(script);
        strangeHeaders(script);
        script.finish();
    }

    private static void wrongAddresses(Script script) {
        script.run("nothing for 0", """
            free 0 = 0
            allocate 8 = 1032
            free 0 = 0
            number 1028 = 1
            end = 1040
            """);
        script.run("no such block", """
            free 1032 throws
            allocate 8 = 1032
            allocate 8 = 1048
            free 5 throws
            free -1 throws
            free -2147483648 throws
            free 1024 throws
            free 1033 throws
            free 1040 throws
            free 1064 throws
            free 65536 throws
            number 1028 = 1
            number 1044 = 1
            end = 1056
            """);
        script.run("a free block is no taken one", """
            allocate 8 = 1032
            allocate 8 = 1048
            free 1032 = 1
            free 1032 throws
            write 1044 2
            free 1048 throws
            end = 1056
            """);
    }

    private static void joining(Script script) {
        script.run("between taken blocks", """
            allocate 8 = 1032
            allocate 8 = 1048
            allocate 8 = 1064
            put 1048 7 = 0
            free 1048 = 1
            number 1024 = 8
            number 1028 = 1
            number 1040 = 8
            number 1044 = 0
            get 1048 = 7
            end = 1072
            """);
        script.run("the block behind, then the one before", """
            allocate 8 = 1032
            allocate 8 = 1048
            allocate 8 = 1064
            allocate 8 = 1080
            free 1048 = 1
            free 1032 = 1
            number 1024 = 24
            number 1028 = 0
            number 1040 = 8
            free 1048 throws
            free 1064 = 1
            number 1024 = 40
            number 1056 = 8
            end = 1088
            allocate 40 = 1032
            """);
        script.run("both at once", """
            allocate 8 = 1032
            allocate 8 = 1048
            allocate 8 = 1064
            allocate 8 = 1080
            free 1032 = 1
            free 1064 = 1
            free 1048 = 1
            number 1024 = 40
            number 1028 = 0
            number 1040 = 24
            number 1044 = 0
            end = 1088
            """);
        script.run("only the blocks right behind and right before", """
            allocate 8 = 1032
            allocate 8 = 1048
            allocate 8 = 1064
            allocate 8 = 1080
            allocate 8 = 1096
            write 1028 0
            write 1044 0
            write 1076 0
            write 1092 0
            free 1064 = 1
            number 1024 = 8
            number 1040 = 40
            number 1088 = 8
            end = 1104
            """);
        script.run("a joined header is written whole", """
            allocate 8 = 1032
            allocate 8 = 1048
            allocate 8 = 1064
            allocate 8 = 1080
            write 1028 7
            write 1060 9
            free 1048 = 1
            number 1024 = 40
            number 1028 = 0
            number 1040 = 24
            number 1044 = 0
            number 1060 = 9
            """);
    }

    private static void endComesDown(Script script) {
        script.run("to the block's beginning", """
            allocate 8 = 1032
            allocate 8 = 1048
            free 1048 = 1
            end = 1040
            number 1040 = 8
            number 1044 = 0
            free 1032 = 1
            number 1024 = 8
            end = 1024
            """);
        script.run("to the joined block's beginning", """
            allocate 8 = 1032
            allocate 8 = 1048
            allocate 8 = 1064
            free 1048 = 1
            end = 1072
            free 1064 = 1
            end = 1040
            number 1040 = 24
            allocate 8 = 1048
            """);
        script.run("not where the block ends elsewhere", """
            allocate 8 = 1032
            write 1024 4
            free 1032 = 1
            number 1024 = 12
            end = 1040
            """);
        script.run("not where the block ends behind it", """
            allocate 8 = 1032
            write 1024 16
            free 1032 = 1
            number 1024 = 16
            number 1028 = 0
            end = 1040
            """);
    }

    private static void strangeHeaders(Script script) {
        script.run("addresses do not wrap", """
            allocate 8 = 1032
            allocate 8 = 1048
            write 1024 4294967295
            free 1048 throws
            free 1032 = 1
            number 1024 = 4294967295
            number 1028 = 0
            end = 1056
            """);
        script.run("a joined size is kept in its four bytes", """
            allocate 8 = 1032
            allocate 8 = 1048
            write 1040 4294967280
            write 1044 0
            free 1032 = 1
            number 1024 = 0
            number 1028 = 0
            end = 1056
            """);
        script.run("and where the block ends is told by them", """
            allocate 24 = 1032
            write 1024 20
            write 1028 0
            write 1052 4294967292
            write 1056 1
            free 1060 = 1
            number 1024 = 24
            number 1056 = 0
            end = 1024
            """);
        script.run("a block that a program wrote", """
            allocate 40 = 1032
            write 1024 8
            write 1040 16
            write 1044 1
            free 1048 = 1
            number 1040 = 24
            end = 1040
            """);
    }
}
