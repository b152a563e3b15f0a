/** Promise 4. */
final class ResizeTest {
    public static void main(String[] args) {
        Script script = new Script();
        ordinary(script);
        nothingDone(script);
        overlaps(script);
        outsideTheMemory(script);
        script.finish();
    }

    private static void ordinary(Script script) {
        script.run("a = 0 takes n, 0 too", """
            resize 0 0 = 1032
            resize 0 9 = 1048
            end = 1064
            resize 0 -1 = 0
            resize 0 60409 = 0
            """);
        script.run("n = 0 gives a back", """
            allocate 8 = 1032
            allocate 8 = 1048
            resize 1032 0 = 0
            number 1028 = 0
            end = 1056
            resize 1032 0 throws
            resize 1048 0 = 0
            end = 1024
            """);
        script.run("large enough: nothing is done", """
            allocate 10 = 1032
            resize 1032 16 = 1032
            resize 1032 9 = 1032
            resize 1032 1 = 1032
            number 1024 = 16
            number 1028 = 1
            end = 1048
            """);
        script.run("moves, copies and gives back", """
            allocate 10 = 1032
            put 1032 11 = 0
            put 1047 12 = 0
            resize 1032 17 = 1056
            get 1056 = 11
            get 1071 = 12
            get 1072 = 0
            number 1024 = 16
            number 1028 = 0
            number 1048 = 24
            number 1052 = 1
            end = 1080
            resize 1032 24 throws
            """);
        script.run("copies the size, and no more", """
            allocate 8 = 1032
            allocate 8 = 1048
            write 1032 4294967295
            write 1036 4294967295
            write 1064 84215045
            write 1072 84215045
            resize 1032 16 = 1064
            number 1064 = 4294967295
            number 1068 = 4294967295
            number 1072 = 84215045
            """);
        script.run("n is rounded before it is compared", """
            allocate 24 = 1032
            write 1024 15
            resize 1032 8 = 1032
            resize 1032 9 = 1064
            number 1024 = 23
            number 1028 = 0
            """);
        script.run("moves down into a free block and joins what it leaves", """
            allocate 32 = 1032
            allocate 8 = 1072
            free 1032 = 1
            put 1072 11 = 0
            resize 1072 16 = 1032
            get 1032 = 11
            number 1024 = 16
            number 1028 = 1
            number 1048 = 24
            number 1052 = 0
            end = 1048
            """);
    }

    private static void nothingDone(Script script) {
        script.run("nothing could be taken: nothing is given back", """
            allocate 40000 = 1032
            put 1032 5 = 0
            resize 1032 50000 = 0
            resize 1032 -1 = 0
            resize 1032 480001 = 0
            get 1032 = 5
            number 1028 = 1
            end = 41032
            """);
        script.run("a size of 2^32 - 1 is less than n rounded up to 2^32", """
            allocate 8 = 1032
            write 1024 4294967295
            resize 1032 -8 = 1032
            resize 1032 -7 = 0
            resize 1032 -1 = 0
            number 1028 = 1
            """);
        script.run("no such block", """
            resize 1032 8 throws
            resize 1032 0 throws
            allocate 8 = 1032
            allocate 8 = 1048
            resize 7 9 throws
            resize -1 9 throws
            resize 1024 9 throws
            resize 1036 9 throws
            resize 1064 9 throws
            resize 7 0 throws
            end = 1056
            free 1032 = 1
            resize 1032 1 throws
            resize 1032 9 throws
            resize 1032 0 throws
            end = 1056
            number 1024 = 8
            """);
    }

    private static void overlaps(Script script) {
        script.run("one by one upwards, over the new block", """
            allocate 8 = 1032
            write 1024 40
            put 1032 1 = 0
            put 1039 8 = 0
            resize 1032 48 = 1048
            get 1048 = 1
            get 1055 = 8
            number 1056 = 48
            get 1064 = 1
            number 1072 = 48
            number 1076 = 1
            get 1080 = 1
            get 1087 = 8
            get 1088 = 0
            number 1024 = 40
            number 1028 = 0
            end = 1096
            """);
        script.run("the new header lies over the old one: there is no such block any more", """
            allocate 24 = 1032
            write 1024 20
            write 1056 1
            resize 1060 8 throws
            number 1056 = 8
            number 1060 = 1
            end = 1072
            """);
    }

    private static void outsideTheMemory(Script script) {
        script.run("there is no byte to copy to", """
            allocate 20000 = 1032
            allocate 30000 = 21040
            allocate 8 = 51048
            write 51040 20008
            write 51044 0
            put 1032 7 = 0
            put 15519 9 = 0
            resize 1032 20001 throws
            get 51048 = 7
            get 65535 = 9
            number 51044 = 1
            number 1028 = 1
            end = 51056
            """);
        script.run("there is no byte to copy from", """
            allocate 10000 = 1032
            allocate 45000 = 11040
            allocate 8 = 56048
            free 1032 = 1
            write 56040 9600
            put 65535 9 = 0
            resize 56048 9608 throws
            get 10519 = 9
            number 1024 = 9608
            number 1028 = 1
            number 10640 = 384
            number 56044 = 1
            end = 56056
            """);
        script.run("there is no place for the rest", """
            allocate 8 = 1032
            allocate 8 = 1048
            write 1040 4294967295
            write 1044 0
            resize 1032 100000 throws
            number 1028 = 1
            number 1040 = 4294967295
            number 1044 = 0
            end = 1056
            """);
    }
}
