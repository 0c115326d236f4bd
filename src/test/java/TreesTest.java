/** Promises 5 to 11: tree, drop, put, remove, seek, take, found. */
public final class TreesTest {
    private TreesTest() {
    }

    private static void tree() {
        KeyStore x = new KeyStore();
        Expect.off("tree without a transaction", x::tree);
        x.begin();
        for (int t = 0; t < 64; t++) {
            Expect.same("tree", x.tree(), t);
            Expect.same("its entries", x.told(10 + t), 0);
        }
        Expect.off("tree when all are there", x::tree);
        x.drop(40);
        x.drop(7);
        Expect.same("the least free", x.tree(), 7);
        Expect.same("the next free", x.tree(), 40);
        Expect.same("trees", x.told(3), 64);
        Expect.same("check", x.check(), 0);
        Expect.off("tree OFF", Steps.off()::tree);
    }

    private static void drop() {
        KeyStore x = Steps.stored();
        Expect.off("drop without a transaction", () -> x.drop(0));
        Expect.off("drop of none without a transaction", () -> x.drop(64));
        x.begin();
        int[] wrong = {-1, 1, 63, 64, Integer.MIN_VALUE, Integer.MAX_VALUE};
        for (int t : wrong) {
            Expect.noElement("drop " + t, () -> x.drop(t));
        }
        x.tree();
        Steps.put(x, 1, "c", "33");
        Expect.same("drop", x.drop(0), 2);
        Expect.noElement("drop again", () -> x.drop(0));
        Expect.same("its entries", x.told(10), -1);
        Expect.same("trees", x.told(3), 1);
        Expect.same("size", x.told(4), 19);
        Expect.yes("the other tree", Steps.all(x, 1).equals("c=33 "));
        Expect.same("made again", x.tree(), 0);
        Expect.same("without entries", x.told(10), 0);
        Expect.same("drop of an empty one", x.drop(0), 0);
        Expect.same("check", x.check(), 0);
        Expect.off("drop OFF", () -> Steps.off().drop(0));
    }

    private static void put() {
        KeyStore x = new KeyStore();
        x.begin();
        x.tree();
        x.tree();
        Expect.yes("a new entry", !Steps.put(x, 0, "k", "one"));
        Expect.yes("an old entry", Steps.put(x, 0, "k", "three"));
        Expect.yes("its value", "three".equals(Steps.get(x, 0, "k")));
        Expect.yes("another tree", !Steps.put(x, 1, "k", ""));
        Expect.yes("an empty value", "".equals(Steps.get(x, 1, "k")));
        Expect.yes("not there", Steps.get(x, 0, "kk") == null);
        Expect.same("entries", x.told(10), 1);
        Expect.same("size", x.told(4), 22 + 17);
        Expect.yes("a key that goes on", !Steps.put(x, 0, "k\0", "z"));
        Expect.yes("a lower key", !Steps.put(x, 0, "A", "y"));
        Expect.yes("a high key", !Steps.put(x, 0, "\u00ff", "w"));
        Expect.yes("in order", Steps.all(x, 0).equals("A=y k=three k\0=z \u00ff=w "));
        x.key(0, 0);
        x.key(7, 1);
        x.put(0);
        Expect.same("the key stays", x.told(5), 1);
        Expect.same("the value stays", x.told(6), 1);
        Expect.same("check", x.check(), 0);
    }

    private static void putWrong() {
        KeyStore x = Steps.stored();
        Expect.off("put without a transaction", () -> x.put(0));
        Expect.off("put in none without a transaction", () -> x.put(5));
        x.begin();
        x.key(0, 0);
        int[] wrong = {-1, 1, 64, Integer.MIN_VALUE, Integer.MAX_VALUE};
        for (int t : wrong) {
            Expect.noElement("put " + t, () -> x.put(t));
        }
        Expect.badArgument("put without a key", () -> x.put(0));
        x.fill(false, 8447, 9);
        Expect.badArgument("put without a key again", () -> x.put(0));
        Expect.off("put OFF", () -> Steps.off().put(0));
        Expect.off("put OFF in none", () -> Steps.off().put(5));
    }

    private static void limit() {
        KeyStore x = new KeyStore();
        x.begin();
        x.tree();
        x.fill(false, 8448, 3);
        for (int i = 0; i < 4; i++) {
            x.key(0, 0);
            x.key(i, 8);
            x.put(0);
        }
        Expect.same("size of four", x.told(4), 4 * 8472);
        x.key(0, 0);
        x.key(9, 8);
        x.value(0, 0);
        x.fill(false, 36864 - 4 * 8472 - 24 + 1, 4);
        Expect.off("one too many", () -> x.put(0));
        Expect.same("size is as it was", x.told(4), 4 * 8472);
        x.value(0, 0);
        x.fill(false, 36864 - 4 * 8472 - 24, 4);
        Expect.yes("to the limit", !x.put(0));
        Expect.same("the limit", x.told(4), 36864);
        Expect.yes("again at the limit", x.put(0));
        x.value(0, 1);
        Expect.off("one too many, again", () -> x.put(0));
        x.key(0, 0);
        x.key(0, 1);
        Expect.off("an entry more", () -> x.put(0));
        x.key(0, 7);
        Expect.yes("less for what there was", x.put(0));
        Expect.same("size now", x.told(4), 36864 - 8448 + x.told(6));
        Expect.same("check", x.check(), 0);
    }

    private static void remove() {
        KeyStore x = Steps.stored();
        Expect.off("remove without a transaction", () -> x.remove(0));
        Expect.off("remove from none without a transaction", () -> x.remove(1));
        x.begin();
        Expect.noElement("remove from none", () -> x.remove(1));
        Expect.noElement("remove from 64", () -> x.remove(64));
        Expect.noElement("remove from -1", () -> x.remove(-1));
        Expect.yes("not there", !Steps.remove(x, 0, "aa"));
        Expect.yes("no key", !Steps.remove(x, 0, ""));
        Expect.yes("there", Steps.remove(x, 0, "a"));
        Expect.yes("gone", !Steps.remove(x, 0, "a"));
        Expect.yes("the other", Steps.all(x, 0).equals("b=2 "));
        Expect.same("entries", x.told(10), 1);
        Expect.same("size", x.told(4), 18);
        Expect.yes("the last", Steps.remove(x, 0, "b"));
        Expect.same("no entries", x.told(10), 0);
        Expect.same("trees", x.told(3), 1);
        Expect.same("check", x.check(), 0);
        Expect.off("remove OFF", () -> Steps.off().remove(0));
    }

    private static boolean seek(KeyStore x, String key, boolean after, String due) {
        Steps.key(x, key);
        boolean there = x.seek(0, after);
        return there == (due != null) && (there ? Steps.foundText(x, 0).equals(due) : x.told(7) + x.told(8) == 0);
    }

    private static void seek() {
        KeyStore x = new KeyStore();
        Expect.noElement("seek in none", () -> x.seek(0, false));
        x.begin();
        x.tree();
        Expect.yes("in an empty tree", seek(x, "", false, null));
        Steps.put(x, 0, "b", "1");
        Steps.put(x, 0, "bb", "2");
        Steps.put(x, 0, "d\u0080", "3");
        Steps.put(x, 0, "d\u007f", "4");
        String[] keys = {"", "a", "b", "b\0", "bb", "bc", "d", "d\u007f", "d\u007f\0", "d\u0080", "e"};
        String[] from = {"b", "b", "b", "bb", "bb", "d\u007f", "d\u007f", "d\u007f", "d\u0080", "d\u0080", null};
        String[] behind = {"b", "b", "bb", "bb", "d\u007f", "d\u007f", "d\u007f", "d\u0080", "d\u0080", null, null};
        for (int turn = 0; turn < 2; turn++) {
            for (int i = 0; i < keys.length; i++) {
                Expect.yes("seek " + i, seek(x, keys[i], false, from[i]));
                Expect.yes("seek behind " + i, seek(x, keys[i], true, behind[i]));
            }
            if (turn == 0) {
                x.commit();
            }
        }
        seek(x, "bb", false, "bb");
        Expect.noElement("seek in none", () -> x.seek(1, false));
        Expect.noElement("seek in -1", () -> x.seek(-1, false));
        Expect.noElement("seek in 64", () -> x.seek(64, false));
        Expect.same("found stays when it throws", x.told(7), 2);
        Expect.same("the key stays", x.told(5), 2);
        Expect.off("seek OFF", () -> Steps.off().seek(0, false));
        Expect.off("seek OFF in none", () -> Steps.off().seek(1, false));
    }

    private static void take() {
        KeyStore x = Steps.stored();
        Expect.noElement("take of none", x::take);
        Steps.key(x, "aa");
        x.seek(0, false);
        Expect.same("the key is still what it was", x.told(5), 2);
        Expect.same("take", x.take(), 1);
        x.seek(0, true);
        Expect.noElement("take behind the last", x::take);
        Expect.same("the key stays", x.told(5), 1);
        Expect.yes("it was taken", "2".equals(Steps.get(x, 0, "b")));
        x.begin();
        Steps.remove(x, 0, "b");
        x.key(0, 0);
        Expect.same("found is a copy", x.take(), 1);
        Expect.yes("taken from the copy", !x.put(0));
        x.drop(0);
        Expect.same("found outlives the tree", x.found(0, 0), 'b');
        x.commit();
        Expect.same("found outlives the transaction", x.found(1, 0), '2');
        Expect.noElement("take OFF", Steps.off()::take);
    }

    private static void found() {
        KeyStore x = new KeyStore();
        x.begin();
        x.tree();
        Steps.put(x, 0, "\u00ff\u0001\u0002\u0003\u0004\u0005\u0006\u0007\u0008\u0009", "\u0080\u0001");
        x.key(0, 0);
        x.seek(0, false);
        Expect.same("eight bytes", x.found(0, 0), 0xFF01020304050607L);
        Expect.same("from 2", x.found(0, 2), 0x0203040506070809L);
        Expect.same("from 3", x.found(0, 3), 0x03040506070809L);
        Expect.same("the last", x.found(0, 9), 9);
        Expect.same("fewer", x.found(1, 0), 0x8001);
        int[] outside = {10, 11, 9000, Integer.MAX_VALUE, -1, -8, Integer.MIN_VALUE};
        for (int from : outside) {
            Expect.same("from " + from, x.found(0, from), 0);
            Expect.same("value from " + from, x.found(1, from), 0);
        }
        int[] wrong = {-1, 2, 10, Integer.MIN_VALUE, Integer.MAX_VALUE};
        for (int what : wrong) {
            Expect.badArgument("found " + what, () -> x.found(what, 0));
            Expect.badArgument("found " + what + " of none", () -> new KeyStore().found(what, 0));
            Expect.badArgument("found " + what + " OFF", () -> Steps.off().found(what, 0));
        }
        Expect.noElement("found of none", () -> new KeyStore().found(1, 0));
        Expect.noElement("found OFF", () -> Steps.off().found(0, 0));
        x.put(0 * x.key(5, 1));
        Expect.same("found is a copy", x.found(0, 9), 9);
    }

    private static void longRows() {
        KeyStore x = new KeyStore();
        x.begin();
        x.tree();
        x.fill(true, 8448, 255);
        x.fill(false, 8448, 254);
        x.put(0);
        x.key(0, 0);
        x.fill(true, 8447, 255);
        x.value(7, 1 - 1);
        x.put(0);
        x.key(254, 1);
        x.put(0);
        x.commit();
        x.reopen();
        int[] lengths = {8447, 8448, 8448};
        for (int i = 0; i < 3; i++) {
            Expect.yes("long key " + i, x.seek(0, i > 0));
            Expect.same("its length", x.take(), lengths[i]);
            Expect.same("its end", x.found(0, 8447), i == 0 ? 0 : 253 + i);
        }
        Expect.same("its value", x.found(1, 8440), 0xFEFEFEFEFEFEFEFEL);
        Expect.yes("no more", !x.seek(0, true));
        Expect.same("check", x.check(), 0);
    }

    public static void main(String[] args) {
        tree();
        drop();
        put();
        putWrong();
        limit();
        remove();
        seek();
        take();
        found();
        longRows();
        Expect.end("TreesTest");
    }
}
