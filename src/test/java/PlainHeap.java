import java.math.BigInteger;
import java.util.ArrayList;
import java.util.List;

/**
 * A second reading of the document, to compare HeapRow with: plain bytes at their own addresses, and the list of
 * all blocks made anew wherever one is looked for.
 */
final class PlainHeap {
    private final byte[] bytes = new byte[65536];
    private int end = 1024;
    private int stackEnd = 65536;

    /** Where the headers of all blocks lie now, from the beginning on. */
    List<Integer> blocks() {
        List<Integer> found = new ArrayList<>();
        long at = 1024;
        while (at < end) {
            found.add((int) at);
            at += 8 + number(at);
        }
        return found;
    }

    int allocate(int n) {
        return take(Integer.toUnsignedLong(n));
    }

    int cleared(int n, int each) {
        BigInteger product = BigInteger.valueOf(Integer.toUnsignedLong(n))
                .multiply(BigInteger.valueOf(Integer.toUnsignedLong(each)));
        if (product.compareTo(BigInteger.valueOf(480000)) > 0) {
            return 0;
        }
        int a = take(product.longValue());
        for (int k = 0; a != 0 && k < product.intValue(); k++) {
            set(a + k, 0);
        }
        return a;
    }

    int resize(int a, int n) {
        if (a == 0) {
            return allocate(n);
        }
        if (n == 0) {
            free(a);
            return 0;
        }
        long size = number(find(a) - 8);
        long wanted = Integer.toUnsignedLong(n);
        while (wanted % 8 != 0) {
            wanted++;
        }
        if (size >= wanted) {
            return a;
        }
        int to = allocate(n);
        if (to == 0) {
            return 0;
        }
        for (long k = 0; k < size; k++) {
            set(to + k, at(a + k));
        }
        free(a);
        return to;
    }

    boolean free(int a) {
        if (a == 0) {
            return false;
        }
        int block = find(a) - 8;
        int index = blocks().indexOf(block);
        header(block, number(block), 0);
        if (index + 1 < blocks().size()) {
            int behind = blocks().get(index + 1);
            if (number(behind + 4) != 1) {
                header(block, number(block) + number(behind) + 8, 0);
            }
        }
        if (index > 0 && number(blocks().get(index - 1) + 4) != 1) {
            int before = blocks().get(index - 1);
            header(before, number(before) + number(block) + 8, 0);
            block = before;
        }
        if (block + 8 + number(block) == end) {
            end = block;
        }
        return true;
    }

    boolean stack(int to) {
        boolean fits = 1024 <= to && to <= 65536 && to >= end;
        stackEnd = fits ? to : stackEnd;
        return fits;
    }

    int put(int a, int v) {
        int was = get(a);
        if (was >= 0) {
            bytes[a] = (byte) v;
        }
        return was;
    }

    int get(int a) {
        return 1024 <= a && a <= 65535 ? bytes[a] & 255 : -1;
    }

    int end() {
        return end;
    }

    private int take(long n) {
        long wanted = Math.max(n, 1);
        while (wanted % 8 != 0) {
            wanted++;
        }
        for (int block : blocks()) {
            long size = number(block);
            if (number(block + 4) != 1 && size >= wanted) {
                if (size - wanted >= 16) {
                    header(block + 8 + wanted, size - wanted - 8, 0);
                    size = wanted;
                }
                header(block, size, 1);
                return block + 8;
            }
        }
        if (n > 480000 || end + 8 + wanted > stackEnd - 4096) {
            return 0;
        }
        int made = end;
        end += 8 + wanted;
        header(made, wanted, 1);
        return made + 8;
    }

    private int find(int a) {
        if (blocks().contains(a - 8) && number(a - 4) == 1) {
            return a;
        }
        throw new IndexOutOfBoundsException();
    }

    private void header(long at, long size, int second) {
        setNumber(at, size);
        setNumber(at + 4, second);
    }

    private long number(long at) {
        look(at, 4);
        return at(at) + 256L * at(at + 1) + 65536L * at(at + 2) + 16777216L * at(at + 3);
    }

    private void setNumber(long at, long v) {
        look(at, 4);
        for (int k = 0; k < 4; k++) {
            set(at + k, (int) (v >> 8 * k));
        }
    }

    private int at(long at) {
        look(at, 1);
        return bytes[(int) at] & 255;
    }

    private void set(long at, int v) {
        look(at, 1);
        bytes[(int) at] = (byte) v;
    }

    private static void look(long at, int count) {
        if (at < 1024 || at + count > 65536) {
            throw new IndexOutOfBoundsException();
        }
    }
}
