import java.util.List;

/** Runs of calls drawn from a fixed sequence of numbers, on HeapRow and on PlainHeap: all answers are the same. */
final class RandomRunsTest {
    private static final int RUNS = 20000;
    private static final int CALLS = 250;
    private static final int GETS = 256;
    private static final int[] STRANGE = {0, 1, 2, 4, 7, 8, 16, 20, 24, 31, 255, 256, 1024, 30000, 64496, 65536, 66560,
        70000, 480000, 480001, 480008, Integer.MAX_VALUE, Integer.MIN_VALUE, -2147482616, -1, -7, -8, -16, -100, -1032,
        -64504, -65536};

    private final Script script;
    private long state;
    private HeapRow heap;
    private PlainHeap plain;
    private int thrown = 0;

    private RandomRunsTest(Script script) {
        this.script = script;
    }

    public static void main(String[] args) {
        Script script = new Script();
        RandomRunsTest test = new RandomRunsTest(script);
        for (int run = 0; run < RUNS; run++) {
            test.run(run);
        }
        System.out.println(test.thrown + " calls threw");
        script.finish();
    }

    private void run(int number) {
        state = number * 7919L + 17;
        heap = new HeapRow();
        plain = new PlainHeap();
        // Runs without puts stay in the ordinary; the others meet more and more strange headers.
        int putsInHundred = number % 5 * 12;
        int calls = below(CALLS) + 1;
        for (int k = 0; k < calls; k++) {
            if (below(100) < putsInHundred) {
                putNumber("run " + number + ", call " + k + ": ");
                k += 3;
            } else {
                call("run " + number + ", call " + k + ": ");
            }
        }
        compareBytes("run " + number + ", at its end: ");
    }

    private void putNumber(String where) {
        int a = block() + 4 * below(2) + (below(6) == 0 ? below(64) : 0);
        int v = below(3) == 0 ? below(3) : below(3) == 0 ? strange() : below(80);
        for (int k = 0; k < 4; k++) {
            compare(where, "put", a + k, v >> 8 * k);
        }
    }

    private void call(String where) {
        switch (below(12)) {
            case 0: case 1: case 2: compare(where, "allocate", length(), 0); break;
            case 3: compare(where, "cleared", length(), below(3) == 0 ? strange() : below(4)); break;
            case 4: case 5: resize(where, address(), length()); break;
            case 6: case 7: case 8: compare(where, "free", address(), 0); break;
            case 9: compare(where, "stack", stackEnd(), 0); break;
            case 10: compare(where, "put", address() - 8 + below(16), below(300)); break;
            default: compare(where, "end", 0, 0); break;
        }
    }

    /**
     * The header of a block that begins less than 8 below the heap's end would partly be written over by that of a new
     * block, and what it is to give back such a block is not told in the document: that is left out.
     */
    private void resize(String where, int a, int n) {
        boolean headerReachesOverTheEnd = a > plain.end() && a < plain.end() + 8;
        if (!headerReachesOverTheEnd) {
            compare(where, "resize", a, n);
        }
    }

    private void compareBytes(String where) {
        int from = Math.max(1024, block() - below(100));
        for (int k = 0; k < GETS - 1; k++) {
            compare(where, "get", k < 200 ? from + k : 65540 - (k - 200), 0);
        }
        compare(where, "end", 0, 0);
    }

    private void compare(String where, String name, int a, int b) {
        String got = answer(name, a, b, true);
        String want = answer(name, a, b, false);
        thrown += want.startsWith("throws") ? 1 : 0;
        script.due(where + name, 0, 0);
        if (!got.equals(want)) {
            script.tell(where + name + "(" + a + ", " + b + ") answered " + got + ", due is " + want);
        }
    }

    private String answer(String name, int a, int b, boolean fromHeap) {
        try {
            switch (name) {
                case "allocate": return "" + (fromHeap ? heap.allocate(a) : plain.allocate(a));
                case "cleared": return "" + (fromHeap ? heap.cleared(a, b) : plain.cleared(a, b));
                case "resize": return "" + (fromHeap ? heap.resize(a, b) : plain.resize(a, b));
                case "free": return "" + (fromHeap ? heap.free(a) : plain.free(a));
                case "stack": return "" + (fromHeap ? heap.stack(a) : plain.stack(a));
                case "put": return "" + (fromHeap ? heap.put(a, b) : plain.put(a, b));
                case "get": return "" + (fromHeap ? heap.get(a) : plain.get(a));
                default: return "" + (fromHeap ? heap.end() : plain.end());
            }
        } catch (RuntimeException e) {
            return "throws " + e.getClass().getName();
        }
    }

    private int address() {
        return below(20) == 0 ? strange() : block() + 8 + (below(20) == 0 ? below(16) - 8 : 0);
    }

    private int stackEnd() {
        int kind = below(6);
        return kind == 0 ? strange() : kind == 1 ? 65528 + below(16) : kind == 2 ? below(70000)
                : plain.end() + below(8000) - 4;
    }

    private int length() {
        int kind = below(20);
        return kind == 0 ? strange() : kind == 1 ? below(62000) : kind < 6 ? below(2000) : below(70);
    }

    private int block() {
        List<Integer> blocks = plain.blocks();
        return blocks.isEmpty() ? 1024 : blocks.get(below(blocks.size()));
    }

    private int strange() {
        return STRANGE[below(STRANGE.length)];
    }

    private int below(int bound) {
        state = state * 6364136223846793005L + 1442695040888963407L;
        return (int) ((state >>> 33) % bound);
    }
}
