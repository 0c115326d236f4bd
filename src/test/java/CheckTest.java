/** Promise 21: check. It answers 0 for all that calls made, and finds what is damaged behind their backs. */
public final class CheckTest {
    private static final int PAGE = 32;

    private CheckTest() {
    }

    private static KeyStore filled() {
        KeyStore x = new KeyStore();
        x.begin();
        x.tree();
        x.tree();
        for (int i = 0; i < 60; i++) {
            x.key(0, 0);
            x.key(i * 41 % 256, 1);
            x.value(0, 0);
            x.fill(false, i, i);
            x.put(i % 3 == 0 ? 1 : 0);
        }
        for (int i = 0; i < 20; i++) {
            x.key(0, 0);
            x.key(i * 41 % 256, 1);
            x.remove(0);
        }
        x.commit();
        Expect.same("check of what calls made", x.check(), 0);
        return x;
    }

    private static byte[] pages(KeyStore x) {
        return (byte[]) Expect.inside(x, "pages", "bytes");
    }

    private static int number(byte[] bytes, int at) {
        return (bytes[at] & 255) << 8 | bytes[at + 1] & 255;
    }

    /** Whether check finds it if a number of the pages is another one; the number comes back. */
    private static boolean finds(KeyStore x, int at, int n) {
        byte[] bytes = pages(x);
        byte first = bytes[at];
        byte second = bytes[at + 1];
        bytes[at] = (byte) (n >> 8);
        bytes[at + 1] = (byte) n;
        boolean found = x.check() > 0;
        bytes[at] = first;
        bytes[at + 1] = second;
        return found;
    }

    private static void head() {
        KeyStore x = filled();
        byte[] bytes = pages(x);
        String[] names = {"pages", "first free", "free count", "tree count", "size"};
        for (int i = 0; i < names.length; i++) {
            int now = number(bytes, 2 * i);
            Expect.yes(names[i] + " too high", finds(x, 2 * i, now + 1));
            Expect.yes(names[i] + " too low", finds(x, 2 * i, now - 1));
            Expect.yes(names[i] + " far too high", finds(x, 2 * i, 65535));
            Expect.yes(names[i] + " none", finds(x, 2 * i, 0));
        }
        for (int t = 0; t < 2; t++) {
            int at = PAGE + 4 * t;
            Expect.yes("no root", finds(x, at, 0));
            Expect.yes("another root", finds(x, at, number(bytes, at) + 1));
            Expect.yes("a root outside", finds(x, at, 60000));
            Expect.yes("the other's root", finds(x, at, number(bytes, PAGE + 4 - 4 * t)));
            Expect.yes("entries", finds(x, at + 2, number(bytes, at + 2) + 1));
        }
        Expect.yes("entries of no tree", finds(x, PAGE + 4 * 63 + 2, 1));
        Expect.same("mended", x.check(), 0);
    }

    private static void nodes() {
        KeyStore x = filled();
        byte[] bytes = pages(x);
        int root = number(bytes, PAGE) * PAGE;
        int leaf = number(bytes, root + 4) * PAGE;
        Expect.same("the root's level", number(bytes, root), 1);
        Expect.same("the leaf's level", number(bytes, leaf), 0);
        int[] nodes = {root, leaf};
        for (int node : nodes) {
            Expect.yes("level", finds(x, node, number(bytes, node) + 1));
            Expect.yes("count too high", finds(x, node + 2, number(bytes, node + 2) + 1));
            Expect.yes("count too low", finds(x, node + 2, number(bytes, node + 2) - 1));
            Expect.yes("count far too high", finds(x, node + 2, 65535));
            Expect.yes("a slot twice", finds(x, node + 4, number(bytes, node + 6)));
            Expect.yes("a slot outside", finds(x, node + 4, 65535));
            Expect.yes("a slot in the head", finds(x, node + 4, 3));
            Expect.yes("the free pages as a slot", finds(x, node + 4, number(bytes, 2)));
        }
        Expect.yes("a node in itself", finds(x, root + 4, root / PAGE));
        int second = number(bytes, leaf + 6);
        bytes[leaf + 7] = bytes[leaf + 5];
        bytes[leaf + 6] = bytes[leaf + 4];
        Expect.yes("slots the other way round", finds(x, leaf + 4, second));
    }

    private static void chains() {
        KeyStore x = filled();
        byte[] bytes = pages(x);
        int leaf = number(bytes, number(bytes, PAGE) * PAGE + 4) * PAGE;
        int chain = number(bytes, leaf + 4) * PAGE;
        for (int i = 1; i < number(bytes, leaf + 2) && number(bytes, chain) == 0; i++) {
            chain = number(bytes, leaf + 4 + 2 * i) * PAGE;
        }
        Expect.yes("a chain of two pages", number(bytes, chain) != 0);
        Expect.yes("a chain cut", finds(x, chain, 0));
        Expect.yes("a chain in a ring", finds(x, chain, chain / PAGE));
        Expect.yes("a chain into a node", finds(x, chain, leaf / PAGE));
        Expect.yes("a key too long", finds(x, chain + 2, 9000));
        Expect.yes("no key", finds(x, chain + 2, 0));
        Expect.yes("a value too long", finds(x, chain + 4, 60000));
        Expect.yes("a value too short", finds(x, chain + 4, 0));
        Expect.yes("another key", finds(x, chain + 6, bytes[chain + 6] < 0 ? 0 : 0xFF00));
        Expect.yes("free pages in a ring", finds(x, number(bytes, 2) * PAGE, number(bytes, 2)));
        Expect.yes("free pages cut", finds(x, number(bytes, 2) * PAGE, 0));
        Expect.same("mended", x.check(), 0);
    }

    private static void whereItIsLookedFor() {
        KeyStore x = filled();
        byte[] bytes = pages(x);
        int root = number(bytes, PAGE) * PAGE;
        int first = number(bytes, root + 4);
        int second = number(bytes, root + 6);
        bytes[root + 7] = (byte) first;
        bytes[root + 6] = (byte) (first >> 8);
        Expect.yes("leaves the other way round", finds(x, root + 4, second));
    }

    /** However the pages are damaged, check ends and throws nothing. */
    private static void garbage() {
        java.util.Random random = new java.util.Random(7);
        for (int turn = 0; turn < 300; turn++) {
            KeyStore x = filled();
            byte[] bytes = pages(x);
            for (int i = 0; i < 1 + turn % 40; i++) {
                bytes[random.nextInt(turn % 2 == 0 ? 120 : 3000)] = (byte) random.nextInt(256);
            }
            Expect.yes("check ends", x.check() >= 0);
        }
    }

    public static void main(String[] args) {
        Expect.same("check of a new object", new KeyStore().check(), 0);
        Expect.off("check OFF", Steps.off()::check);
        head();
        nodes();
        chains();
        whereItIsLookedFor();
        garbage();
        Expect.end("CheckTest");
    }
}
