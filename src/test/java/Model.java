import java.util.ArrayList;
import java.util.Arrays;
import java.util.List;
import java.util.Map;
import java.util.NoSuchElementException;
import java.util.TreeMap;

/** The document in its plainest form: maps that are copied whole, no pages. */
final class Model {
    private static final int LONGEST = 8448;

    private List<TreeMap<byte[], byte[]>> trees = none();
    private List<TreeMap<byte[], byte[]>> lasting = none();
    private final List<List<TreeMap<byte[], byte[]>>> marks = new ArrayList<>();
    private byte[] theKey = new byte[0];
    private byte[] theValue = new byte[0];
    private byte[] foundKey = null;
    private byte[] foundValue = null;
    private boolean on = true;
    private boolean open = false;
    private int when = 4;
    private int failAt = 0;

    private static List<TreeMap<byte[], byte[]>> none() {
        return new ArrayList<>(java.util.Collections.nCopies(64, null));
    }

    private static List<TreeMap<byte[], byte[]>> copy(List<TreeMap<byte[], byte[]>> of) {
        List<TreeMap<byte[], byte[]>> made = new ArrayList<>();
        for (TreeMap<byte[], byte[]> tree : of) {
            made.add(tree == null ? null : new TreeMap<>(tree));
        }
        return made;
    }

    private static byte[] join(byte[] row, byte[] more) {
        byte[] made = Arrays.copyOf(row, row.length + more.length);
        System.arraycopy(more, 0, made, row.length, more.length);
        return made;
    }

    private static byte[] word(byte[] row, long w, int n) {
        byte[] more = new byte[n];
        for (int i = 0; i < n; i++) {
            more[n - 1 - i] = (byte) (w >>> 8 * i);
        }
        return n == 0 ? new byte[0] : join(row, more);
    }

    private void state(boolean right) {
        if (!right) {
            throw new IllegalStateException();
        }
    }

    private void argument(boolean right) {
        if (!right) {
            throw new IllegalArgumentException();
        }
    }

    private void element(boolean right) {
        if (!right) {
            throw new NoSuchElementException();
        }
    }

    private boolean there(int t) {
        return t >= 0 && t < 64 && trees.get(t) != null;
    }

    int key(long w, int n) {
        argument(n >= 0 && n <= 8);
        state(on && theKey.length + n <= LONGEST);
        theKey = word(theKey, w, n);
        return theKey.length;
    }

    int value(long w, int n) {
        argument(n >= 0 && n <= 8);
        state(on && theValue.length + n <= LONGEST);
        theValue = word(theValue, w, n);
        return theValue.length;
    }

    int fill(boolean key, int n, int b) {
        argument(n >= 0 && n <= LONGEST);
        state(on && (key ? theKey : theValue).length + n <= LONGEST);
        byte[] more = new byte[n];
        Arrays.fill(more, (byte) b);
        if (key) {
            theKey = join(theKey, more);
            return theKey.length;
        }
        theValue = join(theValue, more);
        return theValue.length;
    }

    int tree() {
        state(on && open);
        int t = trees.indexOf(null);
        state(t >= 0);
        trees.set(t, new TreeMap<>(Arrays::compareUnsigned));
        return t;
    }

    int drop(int t) {
        state(on && open);
        element(there(t));
        int entries = trees.get(t).size();
        trees.set(t, null);
        return entries;
    }

    boolean put(int t) {
        state(on && open);
        element(there(t));
        argument(theKey.length > 0);
        byte[] old = trees.get(t).get(theKey);
        int without = size() - (old == null ? 0 : 16 + theKey.length + old.length);
        state(without + 16 + theKey.length + theValue.length <= 36864);
        trees.get(t).put(theKey, theValue);
        return old != null;
    }

    boolean remove(int t) {
        state(on && open);
        element(there(t));
        return trees.get(t).remove(theKey) != null;
    }

    boolean seek(int t, boolean after) {
        state(on);
        element(there(t));
        Map.Entry<byte[], byte[]> entry = after ? trees.get(t).higherEntry(theKey) : trees.get(t).ceilingEntry(theKey);
        foundKey = entry == null ? null : entry.getKey();
        foundValue = entry == null ? null : entry.getValue();
        return entry != null;
    }

    int take() {
        element(foundKey != null);
        theKey = foundKey;
        return theKey.length;
    }

    long found(int what, int from) {
        argument(what == 0 || what == 1);
        element(foundKey != null);
        byte[] row = what == 0 ? foundKey : foundValue;
        long w = 0;
        for (long i = from; from >= 0 && i < row.length && i < from + 8L; i++) {
            w = w * 256 + (row[(int) i] & 255);
        }
        return w;
    }

    void begin() {
        state(on && !open);
        open = true;
    }

    void commit() {
        state(on && open);
        boolean fails = when < 3;
        if (!fails || when == 2 && failAt != 0) {
            lasting = copy(trees);
        }
        end();
        if (fails) {
            turnOff();
            when = 4;
            throw new ArithmeticException();
        }
    }

    void rollback() {
        state(on && open);
        trees = copy(lasting);
        end();
    }

    int mark() {
        state(on && open && marks.size() < 5);
        marks.add(copy(trees));
        return marks.size();
    }

    void back(int m) {
        state(on && open);
        if (m < 1 || m > marks.size()) {
            throw new IndexOutOfBoundsException();
        }
        trees = copy(marks.get(m - 1));
        marks.subList(m, marks.size()).clear();
    }

    void keep(int m) {
        state(on && open);
        if (m < 1 || m > marks.size()) {
            throw new IndexOutOfBoundsException();
        }
        marks.subList(m - 1, marks.size()).clear();
    }

    void power(int when, int k, int b) {
        argument(when >= 0 && when <= 4 && k >= 0 && k <= 1000 && b >= 0 && b <= 300);
        this.when = when;
        failAt = k;
    }

    int reopen() {
        boolean fails = when == 3;
        when = 4;
        turnOff();
        if (fails) {
            throw new ArithmeticException();
        }
        on = true;
        trees = copy(lasting);
        return told(3);
    }

    int told(int what) {
        argument(what >= 0 && what <= 73 && what != 9);
        if (!on) {
            return 0;
        }
        switch (what) {
            case 0: return 1;
            case 1: return open ? 1 : 0;
            case 2: return marks.size();
            case 3: return (int) trees.stream().filter(tree -> tree != null).count();
            case 4: return size();
            case 5: return theKey.length;
            case 6: return theValue.length;
            case 7: return foundKey == null ? 0 : foundKey.length;
            case 8: return foundValue == null ? 0 : foundValue.length;
            default: return there(what - 10) ? trees.get(what - 10).size() : -1;
        }
    }

    int check() {
        state(on);
        return 0;
    }

    private int size() {
        int size = 0;
        for (TreeMap<byte[], byte[]> tree : trees) {
            if (tree != null) {
                for (Map.Entry<byte[], byte[]> entry : tree.entrySet()) {
                    size += 16 + entry.getKey().length + entry.getValue().length;
                }
            }
        }
        return size;
    }

    private void end() {
        open = false;
        marks.clear();
    }

    private void turnOff() {
        end();
        on = false;
        theKey = new byte[0];
        theValue = new byte[0];
        foundKey = null;
        foundValue = null;
    }
}
