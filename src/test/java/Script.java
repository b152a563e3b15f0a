import java.util.Arrays;

/**
 * Runs of calls written as text, a call a line, each run on a new object:
 * <pre>
 *   allocate 10 = 1032      the call answers 1032 (a boolean counts 1 or 0)
 *   free 5 throws           the call throws IndexOutOfBoundsException
 *   write 1024 4294967295   four puts: a number of 4 bytes, lowest first
 *   number 1024 = 16        four gets: the number of 4 bytes, without sign
 * </pre>
 */
final class Script {
    private static final int MOST_CALLS = 512;
    private static final String THROWS = "IndexOutOfBoundsException";

    private int steps = 0;
    private int wrong = 0;

    void run(String title, String text) {
        HeapRow heap = new HeapRow();
        int calls = 0;
        for (String line : text.strip().split("\\s*\\n\\s*")) {
            String[] words = line.split("\\s+");
            calls += words[0].equals("write") || words[0].equals("number") ? 4 : 1;
            step(heap, title, line, words);
        }
        if (calls > MOST_CALLS) {
            tell(title + ": " + calls + " calls are more than the document allows");
        }
    }

    void due(String what, long got, long want) {
        steps++;
        if (got != want) {
            tell(what + " answered " + got + ", due is " + want);
        }
    }

    void tell(String what) {
        wrong++;
        System.out.println(what);
    }

    void finish() {
        System.out.println(steps + " steps, " + wrong + " not as due");
        if (wrong != 0) {
            System.exit(1);
        }
    }

    private void step(HeapRow heap, String title, String line, String[] words) {
        steps++;
        int due = Math.max(Arrays.asList(words).indexOf("="), Arrays.asList(words).indexOf("throws"));
        int last = due < 0 ? words.length : due;
        long[] arguments = new long[last - 1];
        for (int k = 1; k < last; k++) {
            arguments[k - 1] = Long.parseLong(words[k]);
        }
        String got = answer(heap, words[0], arguments);
        String want = due < 0 ? got : words[due].equals("throws") ? THROWS : words[due + 1];
        if (!got.equals(want)) {
            tell(title + ": " + line + ": answered " + got);
        }
    }

    private static String answer(HeapRow heap, String call, long[] arguments) {
        try {
            return Long.toString(call(heap, call, arguments));
        } catch (RuntimeException e) {
            return e.getClass().getSimpleName();
        }
    }

    private static long call(HeapRow heap, String call, long[] arguments) {
        int a = arguments.length > 0 ? (int) arguments[0] : 0;
        int b = arguments.length > 1 ? (int) arguments[1] : 0;
        switch (call) {
            case "allocate": return heap.allocate(a);
            case "cleared": return heap.cleared(a, b);
            case "resize": return heap.resize(a, b);
            case "free": return heap.free(a) ? 1 : 0;
            case "stack": return heap.stack(a) ? 1 : 0;
            case "put": return heap.put(a, b);
            case "get": return heap.get(a);
            case "end": return heap.end();
            case "write": return write(heap, a, b);
            case "number": return number(heap, a);
            default: throw new IllegalArgumentException(call);
        }
    }

    private static long write(HeapRow heap, int a, int v) {
        for (int k = 0; k < 4; k++) {
            heap.put(a + k, v >>> (8 * k));
        }
        return 0;
    }

    private static long number(HeapRow heap, int a) {
        long number = 0;
        for (int k = 3; k >= 0; k--) {
            number = number * 256 + heap.get(a + k);
        }
        return number;
    }
}
