/** Promise 6. */
final class StackTest {
    public static void main(String[] args) {
        Script script = new Script();
        script.run("1024 .. 65536", """
            stack 1024 = 1
            stack 65536 = 1
            stack 1025 = 1
            stack 1023 = 0
            stack 65537 = 0
            stack 0 = 0
            stack -1 = 0
            stack -2147483648 = 0
            stack 2147483647 = 0
            stack 65535 = 1
            """);
        script.run("not below the heap's end", """
            allocate 8 = 1032
            stack 1039 = 0
            stack 1024 = 0
            stack 1040 = 1
            stack 1041 = 1
            free 1032 = 1
            stack 1024 = 1
            """);
        script.run("a refused one changes nothing", """
            stack 5136 = 1
            stack 65537 = 0
            allocate 9 = 0
            stack 1000 = 0
            allocate 8 = 1032
            stack 1032 = 0
            stack 65536 = 1
            allocate 60392 = 1048
            end = 61440
            """);
        script.run("it may lie below the heap's end and 4096", """
            allocate 60408 = 1032
            stack 61440 = 1
            stack 61439 = 0
            free 1032 = 1
            allocate 56313 = 0
            allocate 56312 = 1032
            """);
        script.run("it guards no byte", """
            stack 1024 = 1
            put 1024 5 = 0
            get 1024 = 5
            """);
        script.finish();
    }
}
