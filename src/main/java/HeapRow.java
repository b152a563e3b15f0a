/**
 * A heap in a row of bytes: blocks with headers that lie in the same memory as what is in them.
 *
 * <p>Addresses and sizes are held as longs inside, so that numbers without sign add up without
 * wrapping round; a number is cut to its four bytes only where it is written into the memory.
 */
public final class HeapRow {
    private static final int BEGINNING = 1024;
    private static final int MEMORY_END = 65536;
    private static final int HEADER = 8;
    private static final int SECOND_NUMBER = 4;
    private static final int LEAST_SIZE = 8;
    private static final int CUT_FROM = 16;
    private static final int MOST_BYTES = 480000;
    private static final int KEPT_FOR_STACK = 4096;
    private static final int MOST_BLOCKS = (MEMORY_END - BEGINNING) / HEADER;
    private static final int TAKEN = 1;
    private static final int FREE = 0;
    // No block begins at 0 and no block's bytes do, so 0 can stand for there being none.
    private static final int NONE = 0;

    private final Memory memory;
    private long end;
    private long stackEnd;

    public HeapRow() {
        memory = new Memory();
        end = BEGINNING;
        stackEnd = MEMORY_END;
    }

    public int allocate(int n) throws IndexOutOfBoundsException {
        return (int) take(unsigned(n));
    }

    public int cleared(int n, int each) throws IndexOutOfBoundsException {
        long bytes = unsigned(n) * unsigned(each);
        // A product of 2^63 or more stays below 2^64, so it shows as a negative long.
        if (bytes < 0 || bytes > MOST_BYTES) {
            return NONE;
        }
        long a = take(bytes);
        if (a != NONE) {
            clear(a, bytes);
        }
        return (int) a;
    }

    public int resize(int a, int n) throws IndexOutOfBoundsException {
        if (a == 0) {
            return (int) take(unsigned(n));
        }
        long block = takenBlock(unsigned(a));
        if (n == 0) {
            giveBack(block);
            return NONE;
        }
        // Kept from before the taking: a new header at the end may lie over this one's last bytes.
        long oldSize = size(block);
        if (oldSize >= rounded(unsigned(n))) {
            return a;
        }
        long to = take(unsigned(n));
        if (to != NONE) {
            copy(unsigned(a), to, oldSize);
            // Looked for again, because the headers count as they stand now.
            giveBack(takenBlock(unsigned(a)));
        }
        return (int) to;
    }

    public boolean free(int a) throws IndexOutOfBoundsException {
        if (a == 0) {
            return false;
        }
        giveBack(takenBlock(unsigned(a)));
        return true;
    }

    public boolean stack(int to) {
        if (to < BEGINNING || to > MEMORY_END || to < end) {
            return false;
        }
        stackEnd = to;
        return true;
    }

    public int put(int a, int v) {
        long at = unsigned(a);
        if (!memory.has(at)) {
            return -1;
        }
        int was = memory.read(at);
        memory.write(at, v);
        return was;
    }

    public int get(int a) {
        long at = unsigned(a);
        return memory.has(at) ? memory.read(at) : -1;
    }

    public int end() {
        return (int) end;
    }

    private static long unsigned(int n) {
        return n & 0xFFFFFFFFL;
    }

    private static long rounded(long n) {
        return Math.max(LEAST_SIZE, (n + 7) & ~7L);
    }

    /** Takes n bytes: where they begin, or NONE. */
    private long take(long n) {
        long size = rounded(n);
        long block = firstFree(size);
        if (block != NONE) {
            takeFree(block, size);
            return block + HEADER;
        }
        if (n > MOST_BYTES || end + HEADER + size > stackEnd - KEPT_FOR_STACK) {
            return NONE;
        }
        return takeAtEnd(size);
    }

    private long firstFree(long leastSize) {
        long block = BEGINNING;
        for (int k = 0; k < MOST_BLOCKS && block < end; k++) {
            if (!isTaken(block) && size(block) >= leastSize) {
                return block;
            }
            block = next(block);
        }
        return NONE;
    }

    private void takeFree(long block, long wanted) {
        long size = size(block);
        if (size < wanted + CUT_FROM) {
            writeHeader(block, size, TAKEN);
            return;
        }
        // The rest comes first: where it lies outside the memory, this block must stay as it is.
        writeHeader(block + HEADER + wanted, size - wanted - HEADER, FREE);
        writeHeader(block, wanted, TAKEN);
    }

    private long takeAtEnd(long size) {
        long a = end + HEADER;
        writeHeader(end, size, TAKEN);
        end = a + size;
        return a;
    }

    private void clear(long a, long bytes) {
        for (long k = 0; k < bytes; k++) {
            memory.write(a + k, 0);
        }
    }

    // Upwards even where the two places overlap: then bytes already copied are copied again.
    private void copy(long from, long to, long bytes) {
        for (long k = 0; k < bytes; k++) {
            memory.write(to + k, memory.read(from + k));
        }
    }

    /** The taken block whose bytes begin at a. */
    private long takenBlock(long a) {
        long block = BEGINNING;
        for (int k = 0; k < MOST_BLOCKS && block < end; k++) {
            if (block + HEADER == a && isTaken(block)) {
                return block;
            }
            block = next(block);
        }
        throw new IndexOutOfBoundsException("no taken block begins there");
    }

    private void giveBack(long block) {
        writeHeader(block, size(block), FREE);
        joinNext(block);
        long joined = block;
        long before = blockBefore(block);
        if (before != NONE && !isTaken(before)) {
            joinNext(before);
            joined = before;
        }
        if (next(joined) == end) {
            end = joined;
        }
    }

    private void joinNext(long block) {
        long next = next(block);
        if (next < end && !isTaken(next)) {
            writeHeader(block, size(block) + HEADER + size(next), FREE);
        }
    }

    private long blockBefore(long block) {
        long before = NONE;
        long at = BEGINNING;
        for (int k = 0; k < MOST_BLOCKS && at < block; k++) {
            before = at;
            at = next(at);
        }
        return before;
    }

    private long next(long block) {
        return block + HEADER + memory.readNumber(block);
    }

    private long size(long block) {
        return memory.readNumber(block);
    }

    private boolean isTaken(long block) {
        return memory.readNumber(block + SECOND_NUMBER) == TAKEN;
    }

    private void writeHeader(long block, long size, int second) {
        memory.writeNumber(block, size);
        memory.writeNumber(block + SECOND_NUMBER, second);
    }

    /** The bytes; an access to one that there is not throws IndexOutOfBoundsException. */
    private static final class Memory {
        private static final int BYTES_IN_WORD = 8;

        // Eight bytes share a long, because the room that all objects live in counts elements.
        private final long[] words = new long[(MEMORY_END - BEGINNING) / BYTES_IN_WORD];

        boolean has(long a) {
            return a >= BEGINNING && a < MEMORY_END;
        }

        int read(long a) {
            if (!has(a)) {
                throw new IndexOutOfBoundsException("no such byte");
            }
            return (int) (words[wordOf(a)] >>> shiftOf(a)) & 255;
        }

        void write(long a, long v) {
            if (!has(a)) {
                throw new IndexOutOfBoundsException("no such byte");
            }
            int word = wordOf(a);
            int shift = shiftOf(a);
            words[word] = (words[word] & ~(255L << shift)) | ((v & 255L) << shift);
        }

        long readNumber(long a) {
            checkNumber(a);
            long number = 0;
            for (int k = 3; k >= 0; k--) {
                number = (number << 8) | read(a + k);
            }
            return number;
        }

        void writeNumber(long a, long v) {
            checkNumber(a);
            for (int k = 0; k < 4; k++) {
                write(a + k, v >>> (8 * k));
            }
        }

        private void checkNumber(long a) {
            if (!has(a) || !has(a + 3)) {
                throw new IndexOutOfBoundsException("no such number");
            }
        }

        private static int wordOf(long a) {
            return (int) (a - BEGINNING) / BYTES_IN_WORD;
        }

        private static int shiftOf(long a) {
            return (int) (a - BEGINNING) % BYTES_IN_WORD * 8;
        }
    }
}
