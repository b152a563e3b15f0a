/** Promise 6. */
final class StackTest {
    public static void main(String[] args) {
        Script script = new Script();
        script.run("1024 .. 65536", """
            stack 1024 = 1
            stack 65536 = 1
            stack 1025 = 1
            stack 1023 = 0
            stack 65537 = 0
            stack 0 = 0
            stack -1 = 0
            stack -2147483648 = 0
            stack 2147483647 = 0
            stack 65535 = 1
            """);
        script.run("not below the heap's end", """
            allocate 8 = 1032
            stack 1039 = 0
            stack 1024 = 0
            stack 1040 = 1
            stack 1041 = 1
            free 1032 = 1
            stack 1024 = 1
            """);
        script.run("a refused one changes nothing", """
            stack 5136 = 1
            stack 65537 = 0
            allocate 9 = 0
            stack 1000 = 0
            allocate 8 = 1032
            stack 1032 = 0
            stack 65536 = 1
            allocate 60392 = 1048
            end = 61440
            """);
        script.run("it may lie below the heap's end and 4096", """
            allocate 60408 = 1032
            stack 61440 = 1
            stack 61439 = 0
            free 1032 = 1
            allocate 56313 = 0
            allocate 56312 = 1032
            """);
        script.run("it guards no byte", """
            stack 1024 = 1
            put 1024 5 = 0
            get 1024 = 5
            """);
        accepted(script);
        refused(script);
        besideTheEnd(script);
        script.finish();
    }

    private static void accepted(Script script) {
        int[] ends = {65536, 65535, 65529, 65528, 5136};
        int[] most = {60408, 60400, 60400, 60400, 8};
        for (int k = 0; k < ends.length; k++) {
            script.run("'The stack's end becomes this: true': " + ends[k], """
                stack 6000 = 1
                stack %d = 1
                allocate %d = 0
                allocate %d = 1032
                """.formatted(ends[k], most[k] + 1, most[k]));
        }
        int[] low = {1024, 1025, 4096, 5135};
        for (int end : low) {
            script.run("'The stack's end becomes this: true': " + end, """
                stack %d = 1
                allocate 0 = 0
                stack 65536 = 1
                allocate 0 = 1032
                """.formatted(end));
        }
    }

    private static void refused(Script script) {
        String[] ends = {"1023", "1022", "0", "-1", "-1023", "-1024", "-1025", "-5144", "-65536", "-2147483648",
            "-2147478504", "65537", "65538", "70680", "2147483647", "-60392"};
        for (String end : ends) {
            script.changesNothing("'false if it is not 1024 .. 65536': " + end, "stack 5136 = 1\n",
                    "stack " + end + " = 0\n");
            script.run("a refused one leaves the stack's end: " + end, """
                stack 5136 = 1
                stack %s = 0
                allocate 9 = 0
                allocate 8 = 1032
                """.formatted(end));
        }
    }

    private static void besideTheEnd(Script script) {
        String sentence = "'false if it is .. below the heap's end': ";
        script.run(sentence + "1 below it, and the stack's end stays", """
            allocate 8000 = 1032
            stack 13144 = 1
            stack 9031 = 0
            allocate 9 = 0
            allocate 1 = 9040
            stack 9032 = 0
            stack 9047 = 0
            end = 9048
            """);
        script.run(sentence + "at it", """
            allocate 8000 = 1032
            stack 9032 = 1
            allocate 1 = 0
            end = 9032
            """);
        script.run(sentence + "1 above it", """
            allocate 8000 = 1032
            stack 9033 = 1
            allocate 1 = 0
            end = 9032
            """);
        script.run(sentence + "the end has come down", """
            allocate 8 = 1032
            allocate 8 = 1048
            stack 1055 = 0
            stack 1056 = 1
            free 1048 = 1
            stack 1039 = 0
            stack 1040 = 1
            free 1032 = 1
            stack 1023 = 0
            stack 1024 = 1
            """);
    }
}
