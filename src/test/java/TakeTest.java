/** The sentences on TAKE under 'Terms': each at the case that it names and next to it on either side. */
final class TakeTest {
    public static void main(String[] args) {
        Script script = new Script();
        roundedUp(script);
        roundedUpAtTheTop(script);
        asLarge(script);
        cutFrom16Larger(script);
        withoutSign(script);
        limitOf480000(script);
        upToTheStack(script);
        stackLess4096(script);
        full(script);
        nothingTaken(script);
        script.finish();
    }

    private static void roundedUp(Script script) {
        String sentence = "'n is rounded up to a multiple of 8, at least 8': ";
        int[] ns = {0, 1, 2, 7, 8, 9, 15, 16, 17, 255, 256, 257, 60399, 60400, 60401, 60407, 60408};
        int[] sizes = {8, 8, 8, 8, 8, 16, 16, 16, 24, 256, 256, 264, 60400, 60400, 60408, 60408, 60408};
        for (int k = 0; k < ns.length; k++) {
            String due = """
                number 1024 = %d
                number 1028 = 1
                end = %d
                """.formatted(sizes[k], 1032 + sizes[k]);
            script.run(sentence + "allocate()", "allocate " + ns[k] + " = 1032\n" + due);
            script.run(sentence + "cleared()", "cleared " + ns[k] + " 1 = 1032\n" + due);
            script.run(sentence + "resize()", "resize 0 " + ns[k] + " = 1032\n" + due);
        }
        script.run(sentence + "a free block of 8 is as large as 0 to 8, not as 9", """
            allocate 8 = 1032
            allocate 8 = 1048
            free 1032 = 1
            allocate 9 = 1064
            allocate 8 = 1032
            free 1032 = 1
            allocate 1 = 1032
            free 1032 = 1
            allocate 0 = 1032
            number 1024 = 8
            end = 1080
            """);
        script.run(sentence + "a free block of 7 is not as large as 0", """
            allocate 16 = 1032
            write 1024 7
            write 1028 0
            write 1039 1
            write 1043 1
            allocate 0 = 1056
            number 1024 = 7
            number 1028 = 0
            """);
    }

    private static void roundedUpAtTheTop(Script script) {
        String[] sizes = {"4294967287", "4294967288", "4294967295"};
        for (String size : sizes) {
            String before = """
                allocate 8 = 1032
                write 1024 %s
                write 1028 0
                """.formatted(size);
            boolean asLarge = !size.equals("4294967287");
            if (asLarge) {
                script.run("'n is rounded up to a multiple of 8': 2^32 - 15 up to 2^32 - 8, block of " + size, before + """
                    allocate -8 = 1032
                    write 1028 0
                    allocate -15 = 1032
                    number 1024 = %s
                    number 1028 = 1
                    """.formatted(size));
            }
            script.changesNothing("'n is rounded up to a multiple of 8', never down: block of " + size, before, """
                allocate -7 = 0
                allocate -1 = 0
                resize 0 -7 = 0
                resize 0 -1 = 0
                """ + (asLarge ? "" : "allocate -8 = 0\nallocate -15 = 0\n"));
        }
    }

    private static void asLarge(Script script) {
        String sentence = "'The first free block whose size is as large is taken': ";
        String before = """
            allocate 24 = 1032
            write 1028 0
            """;
        script.run(sentence + "1 less", before + """
            write 1024 15
            allocate 16 = 1064
            number 1024 = 15
            number 1028 = 0
            """);
        script.run(sentence + "as large", before + """
            write 1024 16
            allocate 16 = 1032
            number 1024 = 16
            number 1028 = 1
            end = 1056
            """);
        script.run(sentence + "1 more", before + """
            write 1024 17
            allocate 16 = 1032
            number 1024 = 17
            number 1028 = 1
            end = 1056
            """);
        script.run(sentence + "the first, though the one behind fits better", """
            allocate 16 = 1032
            allocate 8 = 1056
            allocate 24 = 1072
            allocate 8 = 1104
            allocate 16 = 1120
            allocate 8 = 1144
            free 1032 = 1
            free 1072 = 1
            free 1120 = 1
            allocate 16 = 1032
            allocate 16 = 1072
            allocate 16 = 1120
            allocate 16 = 1160
            number 1064 = 24
            """);
        script.run(sentence + "the very last block too", """
            allocate 8 = 1032
            allocate 8 = 1048
            allocate 8 = 1064
            write 1060 0
            allocate 8 = 1064
            number 1060 = 1
            end = 1072
            """);
    }

    private static void cutFrom16Larger(Script script) {
        String sentence = "'is its size at least 16 larger, it is cut first': ";
        String before = """
            allocate 48 = 1032
            write 1028 0
            write 1040 707406378
            write 1044 707406378
            write 1048 707406378
            """;
        script.run(sentence + "15", before + """
            write 1024 23
            allocate 8 = 1032
            number 1024 = 23
            number 1028 = 1
            number 1040 = 707406378
            number 1044 = 707406378
            """);
        script.run(sentence + "16", before + """
            write 1024 24
            allocate 8 = 1032
            number 1024 = 8
            number 1028 = 1
            number 1036 = 0
            number 1040 = 8
            number 1044 = 0
            number 1048 = 707406378
            """);
        script.run(sentence + "17", before + """
            write 1024 25
            allocate 8 = 1032
            number 1024 = 8
            number 1028 = 1
            number 1040 = 9
            number 1044 = 0
            number 1048 = 707406378
            """);
        script.run(sentence + "n is rounded first", before + """
            write 1024 31
            allocate 9 = 1032
            number 1024 = 31
            write 1028 0
            write 1024 32
            allocate 9 = 1032
            number 1024 = 16
            number 1048 = 8
            number 1052 = 0
            """);
        script.run(sentence + "the rest is cut again", """
            allocate 56 = 1032
            allocate 8 = 1096
            free 1032 = 1
            allocate 8 = 1032
            number 1040 = 40
            allocate 8 = 1048
            number 1056 = 24
            allocate 8 = 1064
            number 1072 = 8
            allocate 8 = 1080
            allocate 8 = 1112
            """);
    }

    /** Sizes and lengths on either side of 2^31 and up to 2^32: as large, 15 larger and 16 larger. */
    private static void withoutSign(Script script) {
        long[] ns = {2147483640L, 2147483648L, 2147483656L, 4294967264L, 4294967272L};
        for (long n : ns) {
            String less = block(n - 1);
            String large = block(n);
            String uncut = block(n + 15);
            String cut = block(n + 16);
            String taken = """
                allocate %d = 1032
                number 1024 = %d
                number 1028 = 1
                """;
            script.changesNothing("'n without sign': " + n + ", size 1 less", less, "allocate " + n + " = 0\n");
            script.run("'n without sign': " + n + ", as large", large + taken.formatted(n, n));
            script.run("'n without sign': " + n + ", 15 larger", uncut + taken.formatted(n, n + 15));
            script.changesNothing("'n without sign': " + n + ", 16 larger has its rest outside the memory", cut,
                    "allocate " + n + " throws\n");
        }
        script.run("'n without sign': 2^32 - 16, 15 larger", block(4294967295L) + """
            allocate -16 = 1032
            number 1024 = 4294967295
            number 1028 = 1
            """);
    }

    private static String block(long size) {
        return """
            allocate 8 = 1032
            write 1024 %d
            write 1028 0
            """.formatted(size);
    }

    private static void limitOf480000(Script script) {
        String sentence = "'n (before the rounding) is not above 480000': ";
        script.changesNothing(sentence + "nor does so much fit at the end", "", """
            allocate 479999 = 0
            allocate 480000 = 0
            allocate 480001 = 0
            resize 0 480000 = 0
            resize 0 480001 = 0
            cleared 480000 1 = 0
            """);
        for (int n = 479999; n <= 480001; n++) {
            long size = n > 480000 ? 480008 : 480000;
            script.run(sentence + "only where there is no such block, " + n, block(size) + """
                allocate %d = 1032
                number 1024 = %d
                number 1028 = 1
                """.formatted(n, size));
        }
    }

    private static void upToTheStack(Script script) {
        String sentence = "'8 and n more from the end on would not come above the stack's end less 4096': ";
        script.run(sentence + "1 below it", """
            stack 5137 = 1
            allocate 8 = 1032
            end = 1040
            """);
        script.run(sentence + "at it", """
            stack 5136 = 1
            allocate 8 = 1032
            end = 1040
            """);
        script.changesNothing(sentence + "1 above it", "stack 5135 = 1\n", """
            allocate 8 = 0
            allocate 0 = 0
            resize 0 8 = 0
            cleared 1 8 = 0
            """);
        script.run(sentence + "n rounded, 1 below it", """
            stack 5145 = 1
            allocate 9 = 1032
            end = 1048
            """);
        script.run(sentence + "n rounded, at it", """
            stack 5144 = 1
            allocate 9 = 1032
            end = 1048
            """);
        script.changesNothing(sentence + "n rounded, 1 above it", "stack 5143 = 1\n", "allocate 9 = 0\n");
        script.run(sentence + "the stack's end of a new object", """
            allocate 60409 = 0
            allocate 60408 = 1032
            end = 61440
            """);
        script.run(sentence + "from the end on", """
            allocate 8 = 1032
            allocate 60393 = 0
            allocate 60392 = 1048
            end = 61440
            """);
        script.run(sentence + "a free block at the end does not count for it", """
            allocate 60000 = 1032
            allocate 392 = 61040
            write 61036 0
            allocate 393 = 0
            allocate 392 = 61040
            end = 61432
            """);
    }

    private static void stackLess4096(Script script) {
        String sentence = "'the stack's end less 4096', no wrap: ";
        int[] ends = {1024, 1025, 4095, 4096, 4097, 5119, 5120, 5121, 5128, 5135};
        for (int end : ends) {
            script.changesNothing(sentence + end, "stack " + end + " = 1\n", """
                allocate 0 = 0
                allocate 8 = 0
                allocate 480000 = 0
                allocate -1 = 0
                """);
        }
        script.changesNothing(sentence + "the heap's end above it", """
            allocate 4088 = 1032
            stack 5120 = 1
            """, "allocate 0 = 0\n");
    }

    private static void full(Script script) {
        script.run("a heap with room for one block more", """
            allocate 60392 = 1032
            end = 61424
            allocate 9 = 0
            allocate 8 = 61432
            end = 61440
            allocate 0 = 0
            cleared 0 0 = 0
            resize 0 0 = 0
            free 61432 = 1
            end = 61424
            allocate 9 = 0
            allocate 0 = 61432
            end = 61440
            """);
        script.run("a full heap has its free blocks still", """
            allocate 8 = 1032
            allocate 60392 = 1048
            free 1032 = 1
            allocate 9 = 0
            allocate 8 = 1032
            allocate 8 = 0
            end = 61440
            """);
    }

    private static void nothingTaken(Script script) {
        String before = """
            allocate 8 = 1032
            allocate 60376 = 1048
            free 1032 = 1
            put 61424 9 = 0
            """;
        script.changesNothing("'Else nothing is taken', '0 for nothing'", before, """
            allocate 9 = 0
            allocate 70000 = 0
            allocate 480001 = 0
            allocate 2147483647 = 0
            allocate -2147483648 = 0
            allocate -1 = 0
            cleared 3 3 = 0
            cleared 9 1 = 0
            resize 0 9 = 0
            resize 1048 60377 = 0
            """);
        script.run("just what fits is taken", before + """
            allocate 8 = 1032
            end = 61424
            allocate 8 = 61432
            end = 61440
            """);
    }
}
