import java.util.Arrays;

/**
 * Runs of calls written as text, a call a line, each run on a new object:
 * <pre>
 *   allocate 10 = 1032      the call answers 1032 (a boolean counts 1 or 0)
 *   free 5 throws           the call throws IndexOutOfBoundsException
 *   write 1024 4294967295   four puts: a number of 4 bytes, lowest first, all of which there must be
 *   number 1024 = 16        four gets: the number of 4 bytes, without sign
 * </pre>
 */
final class Script {
    private static final int MOST_CALLS = 512;
    private static final int GETS_AN_OBJECT = 256;
    private static final String THROWS = "IndexOutOfBoundsException";

    private int steps = 0;
    private int wrong = 0;

    void run(String title, String text) {
        run(title, text, MOST_CALLS);
    }

    /**
     * Runs before, and then text, whose calls must leave every byte and the heap's end as they were. The memory has
     * more bytes than an object has calls, so the same calls are made on many objects, each read at other addresses.
     */
    void changesNothing(String title, String before, String text) {
        run(title, before + text, MOST_CALLS - GETS_AN_OBJECT - 1);
        for (int from = 1024; from < 65536; from += GETS_AN_OBJECT) {
            HeapRow left = new HeapRow();
            HeapRow right = new HeapRow();
            play(left, before);
            play(right, before + text);
            due(title + ": the end", right.end(), left.end());
            for (int a = from; a < from + GETS_AN_OBJECT; a++) {
                steps++;
                if (left.get(a) != right.get(a)) {
                    tell(title + ": the byte at " + a + " is not what it was");
                }
            }
        }
    }

    void due(String what, long got, long want) {
        steps++;
        if (got != want) {
            tell(what + " answered " + got + ", due is " + want);
        }
    }

    void tell(String what) {
        wrong++;
        System.out.println(what);
    }

    void finish() {
        System.out.println(steps + " steps, " + wrong + " not as due");
        if (wrong != 0) {
            System.exit(1);
        }
    }

    private void run(String title, String text, int mostCalls) {
        HeapRow heap = new HeapRow();
        int calls = 0;
        for (String line : lines(text)) {
            String[] words = line.split("\\s+");
            calls += words[0].equals("write") || words[0].equals("number") ? 4 : 1;
            step(heap, title, line, words);
        }
        if (calls > mostCalls) {
            tell(title + ": " + calls + " calls, at most " + mostCalls + " can be made here");
        }
    }

    private void step(HeapRow heap, String title, String line, String[] words) {
        steps++;
        int due = placeOfDue(words);
        String got = answer(heap, words);
        String want = due == words.length ? "0" : words[due].equals("throws") ? THROWS : words[due + 1];
        if (!got.equals(want)) {
            tell(title + ": " + line + ": answered " + got);
        }
    }

    private static void play(HeapRow heap, String text) {
        for (String line : lines(text)) {
            answer(heap, line.split("\\s+"));
        }
    }

    private static String[] lines(String text) {
        return text.isBlank() ? new String[0] : text.strip().split("\\s*\\n\\s*");
    }

    private static int placeOfDue(String[] words) {
        int place = Math.max(Arrays.asList(words).indexOf("="), Arrays.asList(words).indexOf("throws"));
        return place < 0 ? words.length : place;
    }

    private static String answer(HeapRow heap, String[] words) {
        long[] arguments = new long[placeOfDue(words) - 1];
        for (int k = 0; k < arguments.length; k++) {
            arguments[k] = Long.parseLong(words[k + 1]);
        }
        try {
            return Long.toString(call(heap, words[0], arguments));
        } catch (RuntimeException e) {
            return e.getClass().getSimpleName();
        }
    }

    private static long call(HeapRow heap, String call, long[] arguments) {
        int a = arguments.length > 0 ? (int) arguments[0] : 0;
        int b = arguments.length > 1 ? (int) arguments[1] : 0;
        switch (call) {
            case "allocate": return heap.allocate(a);
            case "cleared": return heap.cleared(a, b);
            case "resize": return heap.resize(a, b);
            case "free": return heap.free(a) ? 1 : 0;
            case "stack": return heap.stack(a) ? 1 : 0;
            case "put": return heap.put(a, b);
            case "get": return heap.get(a);
            case "end": return heap.end();
            case "write": return write(heap, a, b);
            case "number": return number(heap, a);
            default: throw new AssertionError("no such call: " + call);
        }
    }

    private static long write(HeapRow heap, int a, int v) {
        int missing = 0;
        for (int k = 0; k < 4; k++) {
            missing += heap.put(a + k, v >>> (8 * k)) == -1 ? 1 : 0;
        }
        return missing;
    }

    private static long number(HeapRow heap, int a) {
        long number = 0;
        for (int k = 3; k >= 0; k--) {
            number = number * 256 + heap.get(a + k);
        }
        return number;
    }
}
