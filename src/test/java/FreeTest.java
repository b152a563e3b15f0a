/** Promise 5. */
final class FreeTest {
    public static void main(String[] args) {
        Script script = new Script();
        wrongAddresses(script);
        joining(script);
        endComesDown(script);
        strangeHeaders(script);
        rightBehind(script);
        rightBefore(script);
        endsAtTheEnd(script);
        nothingForZero(script);
        noSuchBlock(script);
        script.finish();
    }

    private static void wrongAddresses(Script script) {
        script.run("nothing for 0", """
            free 0 = 0
            allocate 8 = 1032
            free 0 = 0
            number 1028 = 1
            end = 1040
            """);
        script.run("no such block", """
            free 1032 throws
            allocate 8 = 1032
            allocate 8 = 1048
            free 5 throws
            free -1 throws
            free -2147483648 throws
            free 1024 throws
            free 1033 throws
            free 1040 throws
            free 1064 throws
            free 65536 throws
            number 1028 = 1
            number 1044 = 1
            end = 1056
            """);
        script.run("a free block is no taken one", """
            allocate 8 = 1032
            allocate 8 = 1048
            free 1032 = 1
            free 1032 throws
            write 1044 2
            free 1048 throws
            end = 1056
            """);
    }

    private static void joining(Script script) {
        script.run("between taken blocks", """
            allocate 8 = 1032
            allocate 8 = 1048
            allocate 8 = 1064
            put 1048 7 = 0
            free 1048 = 1
            number 1024 = 8
            number 1028 = 1
            number 1040 = 8
            number 1044 = 0
            get 1048 = 7
            end = 1072
            """);
        script.run("the block behind, then the one before", """
            allocate 8 = 1032
            allocate 8 = 1048
            allocate 8 = 1064
            allocate 8 = 1080
            free 1048 = 1
            free 1032 = 1
            number 1024 = 24
            number 1028 = 0
            number 1040 = 8
            free 1048 throws
            free 1064 = 1
            number 1024 = 40
            number 1056 = 8
            end = 1088
            allocate 40 = 1032
            """);
        script.run("both at once", """
            allocate 8 = 1032
            allocate 8 = 1048
            allocate 8 = 1064
            allocate 8 = 1080
            free 1032 = 1
            free 1064 = 1
            free 1048 = 1
            number 1024 = 40
            number 1028 = 0
            number 1040 = 24
            number 1044 = 0
            end = 1088
            """);
        script.run("only the blocks right behind and right before", """
            allocate 8 = 1032
            allocate 8 = 1048
            allocate 8 = 1064
            allocate 8 = 1080
            allocate 8 = 1096
            write 1028 0
            write 1044 0
            write 1076 0
            write 1092 0
            free 1064 = 1
            number 1024 = 8
            number 1040 = 40
            number 1088 = 8
            end = 1104
            """);
        script.run("a joined header is written whole", """
            allocate 8 = 1032
            allocate 8 = 1048
            allocate 8 = 1064
            allocate 8 = 1080
            write 1028 7
            write 1060 9
            free 1048 = 1
            number 1024 = 40
            number 1028 = 0
            number 1040 = 24
            number 1044 = 0
            number 1060 = 9
            """);
    }

    private static void endComesDown(Script script) {
        script.run("to the block's beginning", """
            allocate 8 = 1032
            allocate 8 = 1048
            free 1048 = 1
            end = 1040
            number 1040 = 8
            number 1044 = 0
            free 1032 = 1
            number 1024 = 8
            end = 1024
            """);
        script.run("to the joined block's beginning", """
            allocate 8 = 1032
            allocate 8 = 1048
            allocate 8 = 1064
            free 1048 = 1
            end = 1072
            free 1064 = 1
            end = 1040
            number 1040 = 24
            allocate 8 = 1048
            """);
        script.run("not where the block ends elsewhere", """
            allocate 8 = 1032
            write 1024 4
            free 1032 = 1
            number 1024 = 12
            end = 1040
            """);
        script.run("not where the block ends behind it", """
            allocate 8 = 1032
            write 1024 16
            free 1032 = 1
            number 1024 = 16
            number 1028 = 0
            end = 1040
            """);
    }

    private static void strangeHeaders(Script script) {
        script.run("addresses do not wrap", """
            allocate 8 = 1032
            allocate 8 = 1048
            write 1024 4294967295
            free 1048 throws
            free 1032 = 1
            number 1024 = 4294967295
            number 1028 = 0
            end = 1056
            """);
        script.run("a joined size is kept in its four bytes", """
            allocate 8 = 1032
            allocate 8 = 1048
            write 1040 4294967280
            write 1044 0
            free 1032 = 1
            number 1024 = 0
            number 1028 = 0
            end = 1056
            """);
        script.run("and where the block ends is told by them", """
            allocate 24 = 1032
            write 1024 20
            write 1028 0
            write 1052 4294967292
            write 1056 1
            free 1060 = 1
            number 1024 = 24
            number 1056 = 0
            end = 1024
            """);
        script.run("a block that a program wrote", """
            allocate 40 = 1032
            write 1024 8
            write 1040 16
            write 1044 1
            free 1048 = 1
            number 1040 = 24
            end = 1040
            """);
    }

    private static void rightBehind(Script script) {
        String sentence = "'Is the block right behind it free (and below the end)': ";
        script.run(sentence + "it begins 1 below the end", """
            allocate 8 = 1032
            write 1024 7
            write 1039 5
            free 1032 = 1
            number 1024 = 20
            number 1028 = 0
            end = 1040
            """);
        script.run(sentence + "it begins at the end", """
            allocate 8 = 1032
            write 1040 5
            free 1032 = 1
            number 1024 = 8
            number 1028 = 0
            end = 1024
            """);
        script.run(sentence + "it begins 1 above the end", """
            allocate 8 = 1032
            write 1024 9
            write 1041 5
            free 1032 = 1
            number 1024 = 9
            number 1028 = 0
            end = 1040
            """);
        String[] seconds = {"0", "1", "2", "257", "4294967295"};
        for (String second : seconds) {
            script.run(sentence + "its second number is " + second, """
                allocate 8 = 1032
                allocate 16 = 1048
                allocate 8 = 1072
                write 1044 %s
                free 1032 = 1
                number 1024 = %s
                number 1028 = 0
                number 1040 = 16
                number 1044 = %s
                end = 1080
                """.formatted(second, second.equals("1") ? "8" : "32", second));
        }
        script.run("'its size and 8 are added': size 0", """
            allocate 8 = 1032
            allocate 8 = 1048
            allocate 8 = 1064
            write 1040 0
            write 1044 0
            free 1032 = 1
            number 1024 = 16
            end = 1072
            """);
        script.run("'its size and 8 are added': up to 2^32 - 1, and above", """
            allocate 8 = 1032
            allocate 8 = 1048
            write 1044 0
            write 1040 4294967279
            free 1032 = 1
            number 1024 = 4294967295
            write 1024 8
            write 1028 1
            write 1040 4294967280
            free 1032 = 1
            number 1024 = 0
            write 1024 8
            write 1028 1
            write 1040 4294967281
            free 1032 = 1
            number 1024 = 1
            end = 1056
            """);
    }

    private static void rightBefore(Script script) {
        String sentence = "'Is the block right before it free, the same is done there': ";
        String[] seconds = {"0", "1", "2", "257", "4294967295"};
        for (String second : seconds) {
            boolean taken = second.equals("1");
            script.run(sentence + "its second number is " + second, """
                allocate 16 = 1032
                allocate 8 = 1056
                allocate 8 = 1072
                write 1028 %s
                free 1056 = 1
                number 1024 = %s
                number 1028 = %s
                number 1048 = 8
                number 1052 = 0
                end = 1080
                """.formatted(second, taken ? "16" : "32", taken ? "1" : "0"));
        }
        script.run(sentence + "there is none before the first block", """
            allocate 8 = 1032
            allocate 8 = 1048
            free 1032 = 1
            number 1024 = 8
            number 1028 = 0
            end = 1056
            """);
        script.run(sentence + "not the one before that", """
            allocate 8 = 1032
            allocate 8 = 1048
            allocate 8 = 1064
            allocate 8 = 1080
            free 1032 = 1
            free 1064 = 1
            number 1024 = 8
            number 1040 = 8
            number 1044 = 1
            number 1056 = 8
            number 1060 = 0
            """);
        script.run(sentence + "what was joined from behind goes with it", """
            allocate 8 = 1032
            allocate 8 = 1048
            allocate 16 = 1064
            allocate 8 = 1088
            free 1032 = 1
            free 1064 = 1
            free 1048 = 1
            number 1024 = 48
            number 1028 = 0
            number 1040 = 32
            number 1056 = 16
            allocate 48 = 1032
            end = 1096
            """);
    }

    private static void endsAtTheEnd(Script script) {
        String sentence = "'Does the block then end at the heap's end': ";
        // The second number of what lies behind, at 1043, keeps that block from being joined.
        script.run(sentence + "1 below it", """
            allocate 8 = 1032
            write 1024 7
            write 1043 1
            free 1032 = 1
            number 1024 = 7
            number 1028 = 0
            end = 1040
            """);
        script.run(sentence + "at it", """
            allocate 8 = 1032
            free 1032 = 1
            number 1024 = 8
            number 1028 = 0
            end = 1024
            """);
        script.run(sentence + "1 above it", """
            allocate 8 = 1032
            write 1024 9
            free 1032 = 1
            number 1024 = 9
            number 1028 = 0
            end = 1040
            """);
        int[] sizes = {7, 8, 9};
        for (int size : sizes) {
            script.run(sentence + "joined with a block of " + size + " behind it", """
                allocate 8 = 1032
                allocate 8 = 1048
                write 1040 %d
                write 1044 0
                free 1032 = 1
                number 1024 = %d
                end = %d
                """.formatted(size, size + 16, size == 8 ? 1024 : 1056));
        }
        script.run(sentence + "'that comes down to its beginning', the joined one's", """
            allocate 8 = 1032
            allocate 8 = 1048
            allocate 8 = 1064
            allocate 8 = 1080
            free 1048 = 1
            write 1076 0
            free 1064 = 1
            number 1040 = 40
            end = 1040
            free 1032 = 1
            end = 1024
            """);
    }

    private static void nothingForZero(Script script) {
        script.changesNothing("'Nothing for a = 0', 'whether a was not 0'", """
            allocate 8 = 1032
            allocate 8 = 1048
            """, """
            free 0 = 0
            free 1 throws
            free -1 throws
            """);
        script.changesNothing("'Nothing for a = 0': an empty heap", "", "free 0 = 0\n");
    }

    private static void noSuchBlock(Script script) {
        script.changesNothing("'IndexOutOfBoundsException if there is no such block': an empty heap", "", """
            free 1 throws
            free 1023 throws
            free 1024 throws
            free 1031 throws
            free 1032 throws
            free 1033 throws
            free 65536 throws
            free -1 throws
            free -2147483648 throws
            free 2147483647 throws
            """);
        String before = """
            allocate 8 = 1032
            allocate 8 = 1048
            allocate 8 = 1064
            free 1048 = 1
            """;
        script.changesNothing("'IndexOutOfBoundsException if there is no such block': beside the blocks", before, """
            free 8 throws
            free 1024 throws
            free 1031 throws
            free 1033 throws
            free 1040 throws
            free 1047 throws
            free 1048 throws
            free 1049 throws
            free 1056 throws
            free 1063 throws
            free 1065 throws
            free 1072 throws
            free 1080 throws
            free 65536 throws
            """);
        script.run("there is one", before + """
            free 1064 = 1
            free 1064 throws
            end = 1040
            free 1032 = 1
            free 1032 throws
            end = 1024
            """);
    }
}
