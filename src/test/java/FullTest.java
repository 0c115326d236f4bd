import java.util.ArrayList;
import java.util.Collections;
import java.util.List;
import java.util.Random;

/** As many ENTRIES as SIZE lets in: deep trees, all pages, in every order (promises 7, 8, 9, 21). */
public final class FullTest {
    private static final int MOST = 36864;

    private FullTest() {
    }

    private static int pagesUsed(KeyStore x) {
        byte[] bytes = (byte[]) Expect.inside(x, "pages", "bytes");
        return (bytes[0] & 255) << 8 | bytes[1] & 255;
    }

    private static void key(KeyStore x, int k, int n) {
        x.key(0, 0);
        x.key(k, n);
    }

    private static List<Integer> order(int n, int kind) {
        List<Integer> order = new ArrayList<>();
        for (int i = 0; i < n; i++) {
            order.add(i);
        }
        if (kind == 1) {
            Collections.reverse(order);
        }
        if (kind == 2) {
            Collections.shuffle(order, new Random(kind));
        }
        return order;
    }

    private static void walk(KeyStore x, int t, int entries) {
        x.key(0, 0);
        int count = 0;
        while (count <= entries && x.seek(t, true)) {
            Expect.same("the next key", x.found(0, 0), count);
            x.take();
            count++;
        }
        Expect.same("entries by seeking", count, entries);
    }

    private static void oneTree(int upKind, int downKind) {
        KeyStore x = new KeyStore();
        x.begin();
        x.tree();
        int n = MOST / 18;
        for (int k : order(n, upKind)) {
            key(x, k, 2);
            Expect.yes("a new entry", !x.put(0));
        }
        Expect.same("entries", x.told(10), n);
        Expect.same("size", x.told(4), 18 * n);
        Expect.same("check", x.check(), 0);
        key(x, 60000, 2);
        Expect.off("full", () -> x.put(0));
        walk(x, 0, n);
        x.commit();
        x.reopen();
        walk(x, 0, n);
        x.begin();
        int left = n;
        for (int k : order(n, downKind)) {
            key(x, k, 2);
            Expect.yes("was there", x.remove(0));
            left--;
            if (left % 97 == 0) {
                Expect.same("check with " + left, x.check(), 0);
            }
        }
        Expect.same("size", x.told(4), 0);
        x.rollback();
        walk(x, 0, n);
        Expect.same("check", x.check(), 0);
    }

    /** 64 trees with entries of one byte, half of them changed again and again at the limit. */
    private static void manyTrees() {
        Random random = new Random(64);
        KeyStore x = new KeyStore();
        x.begin();
        for (int t = 0; t < 64; t++) {
            x.tree();
        }
        int most = 0;
        for (int i = 0; i < 40000; i++) {
            int t = random.nextInt(64);
            key(x, random.nextInt(i % 2000 < 1000 ? 40 : 256), 1);
            if (x.told(4) + 17 > MOST || random.nextInt(10) == 0) {
                if (!x.remove(t) && x.seek(t, false)) {
                    x.take();
                    x.remove(t);
                }
            } else {
                x.put(t);
            }
            most = Math.max(most, pagesUsed(x));
            if (i % 1000 == 0) {
                Expect.same("check", x.check(), 0);
            }
        }
        Expect.yes("pages are enough: " + most, most <= 2720 - 9);
        Expect.same("check", x.check(), 0);
    }

    /** Pages of what goes are used again. */
    private static void pagesComeBack() {
        KeyStore x = new KeyStore();
        x.fill(false, 8448, 1);
        int most = 0;
        for (int turn = 0; turn < 40; turn++) {
            x.begin();
            x.tree();
            for (int k = 0; k < 4; k++) {
                key(x, k, 2);
                x.put(0);
                x.put(0);
            }
            key(x, 0, 2);
            x.remove(0);
            x.put(0);
            if (turn % 2 == 0) {
                x.commit();
                x.begin();
            }
            x.drop(0);
            x.commit();
            most = turn == 0 ? pagesUsed(x) : most;
            Expect.same("pages", pagesUsed(x), most);
            Expect.same("check", x.check(), 0);
        }
    }

    public static void main(String[] args) {
        for (int up = 0; up < 3; up++) {
            for (int down = 0; down < 3; down++) {
                oneTree(up, down);
            }
        }
        manyTrees();
        pagesComeBack();
        Expect.end("FullTest");
    }
}
