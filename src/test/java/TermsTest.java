/** The sentences under 'Terms' but those on TAKE: each at the case that it names and next to it on either side. */
final class TermsTest {
    public static void main(String[] args) {
        Script script = new Script();
        addresses(script);
        nextBlock(script);
        nextBlockDoesNotWrap(script);
        secondNumbers(script);
        allFourBytesFirst(script);
        headersWhole(script);
        noByteToClear(script);
        noByteToCopyTo(script);
        noByteToCopyFrom(script);
        script.finish();
    }

    private static void addresses(Script script) {
        script.run("'The MEMORY has the addresses 1024 .. 65535, a byte each, all 0 at first'", """
            get 1023 = -1
            get 1024 = 0
            get 1025 = 0
            get 65534 = 0
            get 65535 = 0
            get 65536 = -1
            put 1023 1 = -1
            put 1024 2 = 0
            put 1025 3 = 0
            put 65534 4 = 0
            put 65535 5 = 0
            put 65536 6 = -1
            get 1023 = -1
            get 1024 = 2
            get 1025 = 3
            get 1026 = 0
            get 65533 = 0
            get 65534 = 4
            get 65535 = 5
            get 65536 = -1
            """);
        // Each of these is 1024, 1032 or 65535 if its sign or its upper bits are left out.
        script.changesNothing("'addresses are ints without sign'", """
            allocate 8 = 1032
            put 1032 9 = 0
            put 65535 9 = 0
            """, """
            get -1024 = -1
            get -1032 = -1
            get -65535 = -1
            get -2147482624 = -1
            get -2147418113 = -1
            get 66560 = -1
            get -64512 = -1
            get -1 = -1
            put -1024 7 = -1
            put -65535 7 = -1
            put -2147482624 7 = -1
            put -2147418113 7 = -1
            put 66560 7 = -1
            put -64512 7 = -1
            put -1 7 = -1
            free -1032 throws
            free -2147482616 throws
            free 66568 throws
            free -64504 throws
            resize -1032 8 throws
            resize -2147482616 8 throws
            resize 66568 8 throws
            resize -64504 8 throws
            resize -1032 0 throws
            resize -2147482616 0 throws
            """);
    }

    private static void nextBlock(Script script) {
        String sentence = "'as long as it begins below the end': ";
        script.run(sentence + "1 below it, to free()", """
            allocate 8 = 1032
            write 1024 7
            write 1039 8
            write 1043 1
            free 1047 = 1
            number 1039 = 8
            number 1043 = 0
            end = 1040
            """);
        script.run(sentence + "1 below it, to resize() and allocate()", """
            allocate 8 = 1032
            write 1024 7
            write 1039 8
            write 1043 1
            resize 1047 8 = 1047
            resize 1047 0 = 0
            number 1043 = 0
            allocate 8 = 1047
            number 1043 = 1
            end = 1040
            """);
        script.changesNothing(sentence + "at it, to free() and resize()", """
            allocate 8 = 1032
            write 1040 8
            write 1044 1
            """, """
            free 1048 throws
            resize 1048 8 throws
            resize 1048 0 throws
            """);
        script.changesNothing(sentence + "1 above it, to free() and resize()", """
            allocate 8 = 1032
            write 1024 9
            write 1041 8
            write 1045 1
            """, """
            free 1049 throws
            resize 1049 8 throws
            resize 1049 0 throws
            """);
        script.run(sentence + "at it, to allocate()", """
            allocate 8 = 1032
            write 1040 64
            allocate 8 = 1048
            number 1040 = 8
            end = 1056
            """);
        script.run(sentence + "1 above it, to allocate()", """
            allocate 8 = 1032
            write 1024 9
            write 1041 64
            allocate 8 = 1048
            end = 1056
            """);
        script.run("'the next block is 8 and the size further on': size 0", """
            allocate 16 = 1032
            write 1024 0
            write 1032 8
            write 1036 1
            free 1039 throws
            free 1041 throws
            free 1040 = 1
            end = 1032
            """);
        script.run("'the next block is 8 and the size further on': size 1", """
            allocate 16 = 1032
            write 1024 1
            write 1033 7
            write 1037 1
            free 1040 throws
            free 1041 = 1
            end = 1033
            allocate 8 = 1041
            end = 1049
            """);
    }

    private static void nextBlockDoesNotWrap(Script script) {
        String[] sizes = {"7", "9", "2147483647", "2147483648", "4294967272", "4294967287", "4294967288", "4294967289",
            "4294967295"};
        for (String size : sizes) {
            script.run("'the next block is 8 and the size further on', without sign: " + size, """
                allocate 8 = 1032
                allocate 8 = 1048
                write 1024 %s
                free 1048 throws
                write 1024 8
                free 1048 = 1
                end = 1040
                """.formatted(size));
        }
        // With addresses that wrap the walk would come from 1040 back to what looks like a block at 1032.
        script.changesNothing("the next block does not lie before this one", """
            allocate 8 = 1032
            allocate 8 = 1048
            write 1032 4
            write 1036 1
            write 1040 4294967280
            """, """
            free 1040 throws
            resize 1040 4 throws
            """);
        script.run("a free block is not looked for before this one", """
            allocate 8 = 1032
            allocate 8 = 1048
            write 1032 64
            write 1036 0
            write 1040 4294967280
            allocate 8 = 1064
            end = 1072
            """);
    }

    private static void secondNumbers(Script script) {
        String[] free = {"0", "2", "3", "256", "257", "65537", "16777217", "2147483649", "4294967294", "4294967295"};
        for (String second : free) {
            script.run("'1 if the block is TAKEN, else it is free': " + second, """
                allocate 8 = 1032
                write 1028 %s
                free 1032 throws
                resize 1032 8 throws
                resize 1032 0 throws
                number 1028 = %s
                allocate 8 = 1032
                number 1028 = 1
                end = 1040
                """.formatted(second, second));
        }
        script.run("'1 if the block is TAKEN, else it is free': 1", """
            allocate 8 = 1032
            write 1028 2
            write 1028 1
            resize 1032 8 = 1032
            allocate 8 = 1048
            free 1032 = 1
            number 1028 = 0
            """);
    }

    /** A block is cut whose rest begins at each place round the last one where a header fits, 65528. */
    private static void allFourBytesFirst(Script script) {
        for (int rest = 65524; rest <= 65540; rest++) {
            boolean fits = rest <= 65528;
            boolean sizeFits = rest <= 65532;
            int block = rest - 8 - 64480;
            StringBuilder text = new StringBuilder("""
                allocate 40 = 1032
                write 1024 %d
                write %d 4294967295
                write %d 0
                write 65524 1296911693
                write 65528 1296911693
                write 65532 1296911693
                allocate 64480 %s
                number %d = %s
                number %d = %d
                end = 1072
                """.formatted(block - 1032, block, block + 4, fits ? "= " + (block + 8) : "throws",
                block, fits ? "64480" : "4294967295", block + 4, fits ? 1 : 0));
            // The rest's size is 4294967295 - 64480 - 8 = 0xFFFF0417; each byte was 77 before.
            int[] header = {0x17, 0x04, 0xFF, 0xFF, 0, 0, 0, 0};
            for (int a = 65524; a <= 65535; a++) {
                int place = a - rest;
                boolean written = place >= 0 && (fits && place < 8 || sizeFits && place < 4);
                text.append("get ").append(a).append(" = ").append(written ? header[place] : 77).append('\n');
            }
            script.run("'Of a number all four bytes are looked at before one is read or written', 'the size, then the"
                    + " second number', 'in cutting that of the rest first': a rest at " + rest, text.toString());
        }
    }

    private static void headersWhole(Script script) {
        String sentence = "'A header is written whole': ";
        script.run(sentence + "a block taken as it is", """
            allocate 16 = 1032
            write 1028 4294967295
            allocate 16 = 1032
            number 1024 = 16
            number 1028 = 1
            """);
        script.run(sentence + "a block cut, and its rest", """
            allocate 32 = 1032
            allocate 8 = 1072
            write 1028 4294967295
            write 1044 4294967295
            write 1048 4294967295
            write 1052 4294967295
            write 1056 4294967295
            allocate 16 = 1032
            number 1024 = 16
            number 1028 = 1
            number 1044 = 4294967295
            number 1048 = 8
            number 1052 = 0
            number 1056 = 4294967295
            """);
        script.run(sentence + "a new block", """
            write 1024 4294967295
            write 1028 4294967295
            write 1032 4294967295
            allocate 8 = 1032
            number 1024 = 8
            number 1028 = 1
            number 1032 = 4294967295
            """);
        script.run("'(also where only the size changes)': the block before", """
            allocate 8 = 1032
            allocate 8 = 1048
            allocate 8 = 1064
            write 1028 4294967295
            free 1048 = 1
            number 1024 = 24
            number 1028 = 0
            number 1040 = 8
            number 1044 = 0
            """);
        script.run("'(also where only the size changes)': not the block behind", """
            allocate 8 = 1032
            allocate 8 = 1048
            allocate 8 = 1064
            write 1044 4294967295
            free 1032 = 1
            number 1024 = 24
            number 1028 = 0
            number 1040 = 8
            number 1044 = 4294967295
            """);
    }

    private static void noByteToClear(Script script) {
        String sentence = "'An access to a byte that there is not ends a call', cleared() up to ";
        script.run(sentence + "65534", """
            allocate 8 = 1032
            write 1024 64504
            write 1028 0
            put 1032 7 = 0
            put 65534 8 = 0
            put 65535 9 = 0
            cleared 64503 1 = 1032
            get 1032 = 0
            get 65534 = 0
            get 65535 = 9
            """);
        script.run(sentence + "65535", """
            allocate 8 = 1032
            write 1024 64504
            write 1028 0
            put 1032 7 = 0
            put 65534 8 = 0
            put 65535 9 = 0
            cleared 64504 1 = 1032
            get 1032 = 0
            get 65534 = 0
            get 65535 = 0
            """);
        script.run(sentence + "65536; 'what was done before it stays'", """
            allocate 8 = 1032
            write 1024 64512
            write 1028 0
            put 1032 7 = 0
            put 65534 8 = 0
            put 65535 9 = 0
            cleared 64505 1 throws
            number 1024 = 64512
            number 1028 = 1
            get 1032 = 0
            get 65534 = 0
            get 65535 = 0
            end = 1040
            free 1032 = 1
            number 1028 = 0
            """);
    }

    private static void noByteToCopyTo(Script script) {
        String sentence = "'An access to a byte that there is not ends a call', resize() writing up to ";
        script.run(sentence + "65534", """
            allocate 14488 = 1032
            allocate 35512 = 15528
            allocate 8 = 51048
            write 1024 14487
            write 15519 35513
            write 15523 1
            write 51040 14496
            write 51044 0
            put 1032 7 = 0
            put 15518 8 = 0
            put 65535 9 = 0
            resize 1032 14489 = 51048
            get 51048 = 7
            get 65534 = 8
            get 65535 = 9
            number 51044 = 1
            number 1028 = 0
            """);
        script.run(sentence + "65535", """
            allocate 14488 = 1032
            allocate 35512 = 15528
            allocate 8 = 51048
            write 51040 14496
            write 51044 0
            put 1032 7 = 0
            put 15519 8 = 0
            put 65535 9 = 0
            resize 1032 14489 = 51048
            get 51048 = 7
            get 65535 = 8
            number 51044 = 1
            number 1028 = 0
            """);
        script.run(sentence + "65536; 'what was done before it stays'", """
            allocate 14488 = 1032
            allocate 35512 = 15528
            allocate 8 = 51048
            write 1024 14489
            write 15521 35511
            write 15525 1
            write 51040 14496
            write 51044 0
            put 1032 7 = 0
            put 15519 8 = 0
            put 65535 9 = 0
            resize 1032 14489 throws
            get 51048 = 7
            get 65535 = 8
            number 51044 = 1
            number 1028 = 1
            end = 51056
            """);
    }

    private static void noByteToCopyFrom(Script script) {
        String sentence = "'An access to a byte that there is not ends a call', resize() reading up to ";
        String before = """
            allocate 10000 = 1032
            allocate 45000 = 11040
            allocate 8 = 56048
            free 1032 = 1
            put 56048 6 = 0
            put 65534 7 = 0
            put 65535 8 = 0
            put 10518 9 = 0
            put 10519 9 = 0
            put 10520 9 = 0
            """;
        script.run(sentence + "65534", before + """
            write 56040 9487
            resize 56048 9496 = 1032
            get 1032 = 6
            get 10518 = 7
            get 10519 = 9
            get 10520 = 9
            number 56044 = 0
            """);
        script.run(sentence + "65535", before + """
            write 56040 9488
            resize 56048 9496 = 1032
            get 1032 = 6
            get 10518 = 7
            get 10519 = 8
            get 10520 = 9
            number 56044 = 0
            end = 56056
            """);
        script.run(sentence + "65536; 'what was done before it stays'", before + """
            write 56040 9489
            resize 56048 9496 throws
            get 1032 = 6
            get 10518 = 7
            get 10519 = 8
            get 10520 = 9
            number 1024 = 9496
            number 1028 = 1
            number 10528 = 496
            number 10532 = 0
            number 56044 = 1
            end = 56056
            """);
    }
}
