/** Promise 4. */
final class ResizeTest {
    public static void main(String[] args) {
        Script script = new Script();
        ordinary(script);
        nothingDone(script);
        overlaps(script);
        outsideTheMemory(script);
        addressZero(script);
        lengthZero(script);
        asLarge(script);
        asLargeWithoutSign(script);
        couldNotBeTaken(script);
        throwsFirst(script);
        script.finish();
    }

    private static void ordinary(Script script) {
        script.run("a = 0 takes n, 0 too", """
            resize 0 0 = 1032
            resize 0 9 = 1048
            end = 1064
            resize 0 -1 = 0
            resize 0 60409 = 0
            """);
        script.run("n = 0 gives a back", """
            allocate 8 = 1032
            allocate 8 = 1048
            resize 1032 0 = 0
            number 1028 = 0
            end = 1056
            resize 1032 0 throws
            resize 1048 0 = 0
            end = 1024
            """);
        script.run("large enough: nothing is done", """
            allocate 10 = 1032
            resize 1032 16 = 1032
            resize 1032 9 = 1032
            resize 1032 1 = 1032
            number 1024 = 16
            number 1028 = 1
            end = 1048
            """);
        script.run("moves, copies and gives back", """
            allocate 10 = 1032
            put 1032 11 = 0
            put 1047 12 = 0
            resize 1032 17 = 1056
            get 1056 = 11
            get 1071 = 12
            get 1072 = 0
            number 1024 = 16
            number 1028 = 0
            number 1048 = 24
            number 1052 = 1
            end = 1080
            resize 1032 24 throws
            """);
        script.run("copies the size, and no more", """
            allocate 8 = 1032
            allocate 8 = 1048
            write 1032 4294967295
            write 1036 4294967295
            write 1064 84215045
            write 1072 84215045
            resize 1032 16 = 1064
            number 1064 = 4294967295
            number 1068 = 4294967295
            number 1072 = 84215045
            """);
        script.run("n is rounded before it is compared", """
            allocate 24 = 1032
            write 1024 15
            resize 1032 8 = 1032
            resize 1032 9 = 1064
            number 1024 = 23
            number 1028 = 0
            """);
        script.run("moves down into a free block and joins what it leaves", """
            allocate 32 = 1032
            allocate 8 = 1072
            free 1032 = 1
            put 1072 11 = 0
            resize 1072 16 = 1032
            get 1032 = 11
            number 1024 = 16
            number 1028 = 1
            number 1048 = 24
            number 1052 = 0
            end = 1048
            """);
    }

    private static void nothingDone(Script script) {
        script.run("nothing could be taken: nothing is given back", """
            allocate 40000 = 1032
            put 1032 5 = 0
            resize 1032 50000 = 0
            resize 1032 -1 = 0
            resize 1032 480001 = 0
            get 1032 = 5
            number 1028 = 1
            end = 41032
            """);
        script.run("a size of 2^32 - 1 is less than n rounded up to 2^32", """
            allocate 8 = 1032
            write 1024 4294967295
            resize 1032 -8 = 1032
            resize 1032 -7 = 0
            resize 1032 -1 = 0
            number 1028 = 1
            """);
        script.run("no such block", """
            resize 1032 8 throws
            resize 1032 0 throws
            allocate 8 = 1032
            allocate 8 = 1048
            resize 7 9 throws
            resize -1 9 throws
            resize 1024 9 throws
            resize 1036 9 throws
            resize 1064 9 throws
            resize 7 0 throws
            end = 1056
            free 1032 = 1
            resize 1032 1 throws
            resize 1032 9 throws
            resize 1032 0 throws
            end = 1056
            number 1024 = 8
            """);
    }

    private static void overlaps(Script script) {
        script.run("one by one upwards, over the new block", """
            allocate 8 = 1032
            write 1024 40
            put 1032 1 = 0
            put 1039 8 = 0
            resize 1032 48 = 1048
            get 1048 = 1
            get 1055 = 8
            number 1056 = 48
            get 1064 = 1
            number 1072 = 48
            number 1076 = 1
            get 1080 = 1
            get 1087 = 8
            get 1088 = 0
            number 1024 = 40
            number 1028 = 0
            end = 1096
            """);
    }

    private static void outsideTheMemory(Script script) {
        script.run("there is no byte to copy to", """
            allocate 20000 = 1032
            allocate 30000 = 21040
            allocate 8 = 51048
            write 51040 20008
            write 51044 0
            put 1032 7 = 0
            put 15519 9 = 0
            resize 1032 20001 throws
            get 51048 = 7
            get 65535 = 9
            number 51044 = 1
            number 1028 = 1
            end = 51056
            """);
        script.run("there is no byte to copy from", """
            allocate 10000 = 1032
            allocate 45000 = 11040
            allocate 8 = 56048
            free 1032 = 1
            write 56040 9600
            put 65535 9 = 0
            resize 56048 9608 throws
            get 10519 = 9
            number 1024 = 9608
            number 1028 = 1
            number 10640 = 384
            number 56044 = 1
            end = 56056
            """);
        script.run("there is no place for the rest", """
            allocate 8 = 1032
            allocate 8 = 1048
            write 1040 4294967295
            write 1044 0
            resize 1032 100000 throws
            number 1028 = 1
            number 1040 = 4294967295
            number 1044 = 0
            end = 1056
            """);
    }

    private static void addressZero(Script script) {
        String[] lengths = {"0", "1", "8"};
        for (String n : lengths) {
            script.run("'For a = 0 takes n': n = " + n, """
                resize 0 %s = 1032
                number 1024 = 8
                number 1028 = 1
                end = 1040
                """.formatted(n));
        }
        script.run("'For a = 0 takes n': the first free block, too", """
            allocate 32 = 1032
            allocate 8 = 1072
            free 1032 = 1
            resize 0 16 = 1032
            number 1048 = 8
            resize 0 0 = 1056
            resize 0 9 = 1088
            """);
        script.changesNothing("a = 1 and a = -1 are no addresses of blocks", """
            allocate 8 = 1032
            """, """
            resize 1 0 throws
            resize 1 8 throws
            resize -1 0 throws
            resize -1 8 throws
            """);
    }

    private static void lengthZero(Script script) {
        script.run("'For n = 0 gives a back, as free(): 0'", """
            allocate 8 = 1032
            allocate 8 = 1048
            allocate 8 = 1064
            allocate 8 = 1080
            resize 1048 1 = 1048
            resize 1048 -1 = 0
            number 1044 = 1
            resize 1048 0 = 0
            number 1040 = 8
            number 1044 = 0
            resize 1048 0 throws
            resize 1064 0 = 0
            number 1040 = 24
            end = 1088
            resize 1032 0 = 0
            number 1024 = 40
            resize 1080 0 = 0
            end = 1024
            """);
    }

    private static void asLarge(Script script) {
        String sentence = "'as large as n rounded up to a multiple of 8, nothing is done: a': ";
        script.changesNothing(sentence + "size 16", """
            allocate 16 = 1032
            allocate 8 = 1056
            """, """
            resize 1032 1 = 1032
            resize 1032 8 = 1032
            resize 1032 9 = 1032
            resize 1032 15 = 1032
            resize 1032 16 = 1032
            """);
        script.run(sentence + "size 16, 1 more", """
            allocate 16 = 1032
            allocate 8 = 1056
            put 1047 9 = 0
            resize 1032 17 = 1072
            number 1064 = 24
            get 1087 = 9
            number 1028 = 0
            end = 1096
            """);
        // The blocks that follow a block of such a size are read from 0 bytes: free and of size 0.
        String before = "allocate 24 = 1032\n";
        script.run(sentence + "size 7 is less than 1 rounded up", before + """
            write 1024 7
            resize 1032 1 = 1064
            number 1024 = 15
            number 1028 = 0
            """);
        script.changesNothing(sentence + "size 8", before + "write 1024 8\n", """
            resize 1032 1 = 1032
            resize 1032 7 = 1032
            resize 1032 8 = 1032
            """);
        script.run(sentence + "size 8 is less than 9 rounded up", before + """
            write 1024 8
            resize 1032 9 = 1064
            number 1028 = 0
            """);
        script.changesNothing(sentence + "size 15", before + "write 1024 15\n", "resize 1032 8 = 1032\n");
        script.run(sentence + "size 15 is less than 9 rounded up", before + """
            write 1024 15
            resize 1032 9 = 1064
            number 1028 = 0
            """);
        script.changesNothing(sentence + "size 17", before + "write 1024 17\n", """
            resize 1032 9 = 1032
            resize 1032 16 = 1032
            """);
        script.run(sentence + "size 17 is less than 17 rounded up", before + """
            write 1024 17
            resize 1032 17 = 1064
            number 1028 = 0
            """);
    }

    private static void asLargeWithoutSign(Script script) {
        String[] sizes = {"2147483639", "2147483640", "2147483647", "2147483648", "4294967287", "4294967288",
            "4294967295"};
        String[] large = {"2147483632", "2147483640", "2147483640", "2147483648", "4294967280", "4294967288",
            "4294967288"};
        String[] tooLarge = {"2147483633", "2147483641", "2147483641", "2147483649", "4294967281", "4294967289",
            "4294967289"};
        for (int k = 0; k < sizes.length; k++) {
            script.changesNothing("the size of the block at a, without sign: " + sizes[k], """
                allocate 8 = 1032
                write 1024 %s
                """.formatted(sizes[k]), """
                resize 1032 1 = 1032
                resize 1032 480001 = 1032
                resize 1032 %s = 1032
                resize 1032 %s = 0
                """.formatted(large[k], tooLarge[k]));
        }
    }

    private static void couldNotBeTaken(Script script) {
        String sentence = "'0, and nothing is given back, if nothing could be taken': ";
        String before = """
            allocate 30000 = 1032
            put 1032 5 = 0
            put 31031 6 = 0
            """;
        script.run(sentence + "just what can be", before + """
            resize 1032 30400 = 31040
            get 31040 = 5
            get 61039 = 6
            number 1028 = 0
            end = 61440
            """);
        script.run(sentence + "1 less", before + """
            resize 1032 30399 = 31040
            number 31032 = 30400
            number 1028 = 0
            """);
        script.changesNothing(sentence + "1 more", before, """
            resize 1032 30401 = 0
            resize 1032 480000 = 0
            resize 1032 480001 = 0
            resize 1032 2147483647 = 0
            resize 1032 -2147483648 = 0
            resize 1032 -8 = 0
            resize 1032 -7 = 0
            resize 1032 -1 = 0
            """);
        // What the block itself would leave is not counted: it is given back last.
        script.changesNothing(sentence + "the block's own place does not help", """
            allocate 60000 = 1032
            """, "resize 1032 60001 = 0\n");
    }

    private static void throwsFirst(Script script) {
        String before = """
            allocate 8 = 1032
            allocate 8 = 1048
            allocate 8 = 1064
            free 1048 = 1
            """;
        String[] addresses = {"1", "-1", "1024", "1031", "1033", "1040", "1048", "1063", "1065", "1072", "1080",
            "65535", "65536", "2147483647", "-2147483648"};
        for (String a : addresses) {
            script.changesNothing("'IndexOutOfBoundsException also where free() throws it, before anything is done'",
                    before, """
                free %s throws
                resize %s 0 throws
                resize %s 1 throws
                resize %s 8 throws
                resize %s 9 throws
                resize %s 60000 throws
                resize %s 70000 throws
                resize %s 480001 throws
                resize %s -1 throws
                """.replace("%s", a));
        }
        script.run("and where free() does not, it does not", before + """
            resize 1032 8 = 1032
            resize 1064 8 = 1064
            resize 1064 70000 = 0
            resize 1064 9 = 1080
            resize 1080 0 = 0
            resize 1032 0 = 0
            end = 1024
            """);
    }
}
