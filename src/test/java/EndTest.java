/** Promise 9. */
final class EndTest {
    public static void main(String[] args) {
        Script script = new Script();
        script.run("goes up and comes down", """
            end = 1024
            allocate 1 = 1032
            end = 1040
            cleared 2 8 = 1048
            end = 1064
            resize 0 8 = 1072
            end = 1080
            resize 1032 9 = 1088
            end = 1104
            free 1088 = 1
            end = 1080
            resize 1072 0 = 0
            end = 1064
            free 1048 = 1
            end = 1024
            """);
        script.run("stays where nothing is taken", """
            allocate 8 = 1032
            allocate 70000 = 0
            allocate -1 = 0
            cleared -1 -1 = 0
            resize 1032 70000 = 0
            free 0 = 0
            free 5 throws
            resize 5 5 throws
            stack 2000 = 1
            put 1024 200 = 8
            end = 1040
            end = 1040
            """);
        script.run("up to 61440", """
            allocate 60408 = 1032
            end = 61440
            """);
        script.run("'The heap's end': empty, one block, and empty again", """
            end = 1024
            allocate 0 = 1032
            end = 1040
            free 1032 = 1
            end = 1024
            """);
        script.run("'The heap's end': nearly full, full, and no further", """
            allocate 60400 = 1032
            end = 61432
            allocate 0 = 0
            end = 61432
            free 1032 = 1
            allocate 60408 = 1032
            end = 61440
            allocate 0 = 0
            end = 61440
            """);
        script.run("'The heap's end': a written header alone does not move it", """
            allocate 8 = 1032
            write 1024 16
            end = 1040
            write 1024 0
            end = 1040
            write 1028 0
            end = 1040
            write 1040 8
            write 1044 1
            end = 1040
            """);
        script.finish();
    }
}
