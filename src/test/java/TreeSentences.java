import java.util.List;

/** Promises 5 to 8, and what the terms say of TREES and SIZE, sentence by sentence. */
final class TreeSentences {
    private static final int MOST = 8448;
    private static final int MOST_SIZE = 36864;
    /** Numbers of no TREE, some of which would be one if they were cut to fewer bits. */
    private static final int[] OUTSIDE = {-1, 64, 65, 128, 256, 65536, 1 << 26, 1 << 29, 1 << 30, -64,
        Integer.MIN_VALUE, Integer.MAX_VALUE};

    /** A call that is told a TREE. */
    interface Call {
        void of(KeyStore x, int t);
    }

    private TreeSentences() {
    }

    static List<Sentence> all() {
        return List.of(
            new Sentence(0, "TREES 0 to 63 are there or not", TreeSentences::treesOrNot),
            new Sentence(0, "KEYS have 1 to 8448 bytes, VALUES 0 to 8448", TreeSentences::lengths),
            new Sentence(0, "SIZE of an ENTRY is 16 and how many bytes KEY and VALUE have", TreeSentences::sizeOfAnEntry),
            new Sentence(0, "all together have a SIZE of at most 36864", TreeSentences::sizeOfAll),
            new Sentence(0, "Each has ENTRIES, a KEY and a VALUE, rows of bytes, no two with the same KEY",
                TreeSentences::noTwoWithTheSameKey),
            new Sentence(5, "A new TREE, without ENTRIES", TreeSentences::newTreeIsEmpty),
            new Sentence(5, "the least number that is free", TreeSentences::leastNumber),
            new Sentence(5, "IllegalStateException if it is OFF, no TRANSACTION is open", TreeSentences::treeRefused),
            new Sentence(5, "or all are there", TreeSentences::allAreThere),
            new Sentence(6, "TREE t goes", TreeSentences::treeGoes),
            new Sentence(6, "how many ENTRIES it had", TreeSentences::howManyItHad),
            new Sentence(6, "IllegalStateException if it is OFF, or no TRANSACTION is open",
                () -> refusedFirst(KeyStore::drop)),
            new Sentence(6, "then NoSuchElementException if there is no TREE t", () -> noTree(KeyStore::drop)),
            new Sentence(7, "THE VALUE is stored under THE KEY in TREE t", TreeSentences::valueIsStored),
            new Sentence(7, "whether there was an ENTRY with it, which goes", TreeSentences::whetherThereWas),
            new Sentence(7, "Thrown as by drop", () -> refusedFirst(KeyStore::put)),
            new Sentence(7, "Thrown as by drop", () -> noTree(KeyStore::put)),
            new Sentence(7, "then IllegalArgumentException if THE KEY is empty", TreeSentences::keyIsEmpty),
            new Sentence(7, "then IllegalStateException if SIZE would be above 36864", TreeSentences::sizeWouldBeAbove),
            new Sentence(7, "then IllegalStateException if SIZE would be above 36864", TreeSentences::sizeOfWhatGoes),
            new Sentence(8, "The ENTRY with THE KEY goes from TREE t", TreeSentences::entryGoes),
            new Sentence(8, "whether there was one", TreeSentences::whetherThereWasOne),
            new Sentence(8, "Thrown as by drop", () -> refusedFirst(KeyStore::remove)),
            new Sentence(8, "Thrown as by drop", () -> noTree(KeyStore::remove)));
    }

    private static KeyStore withTrees(int n) {
        KeyStore x = new KeyStore();
        x.begin();
        for (int t = 0; t < n; t++) {
            x.tree();
        }
        return x;
    }

    private static void rows(KeyStore x, int k, int keyBytes, int valueBytes) {
        x.key(0, 0);
        x.fill(true, keyBytes - 1, 0);
        x.key(k, 1);
        x.value(0, 0);
        x.fill(false, valueBytes, k);
    }

    /** A store with two TREES and a SIZE that is told; TREE 0 has the KEYS 1, 2, .. of one byte. */
    private static KeyStore ofSize(int size) {
        KeyStore x = withTrees(2);
        int k = 1;
        for (int left = size; left > 0; k++) {
            int bytes = left <= MOST + 17 ? left - 17 : left >= 2 * (MOST + 17) ? MOST : left / 2 - 17;
            rows(x, k, 1, bytes);
            x.put(0);
            left -= 17 + bytes;
        }
        Expect.same("SIZE that was made", x.told(4), size);
        return x;
    }

    private static void treesOrNot() {
        KeyStore x = new KeyStore();
        x.begin();
        for (int t = 0; t < 64; t++) {
            Expect.same("not there", x.told(10 + t), -1);
            Expect.same("comes", x.tree(), t);
            Expect.same("there", x.told(10 + t), 0);
        }
        Expect.off("no TREE 64", x::tree);
        Expect.noElement("seek in 64", () -> x.seek(64, false));
        Expect.noElement("seek in -1", () -> x.seek(-1, false));
        Expect.yes("seek in 63", !x.seek(63, false));
        Expect.yes("seek in 0", !x.seek(0, false));
        Expect.same("63 goes", x.drop(63), 0);
        Expect.same("63 is not there", x.told(73), -1);
        Expect.same("62 is there", x.told(72), 0);
    }

    private static void lengths() {
        int[] keyBytes = {1, 2, MOST - 1, MOST};
        int[] valueBytes = {0, 1, MOST - 1, MOST};
        for (int k : keyBytes) {
            for (int v : valueBytes) {
                KeyStore x = withTrees(1);
                rows(x, 5, k, v);
                Expect.yes("put " + k + " " + v, !x.put(0));
                x.commit();
                x.reopen();
                Expect.yes("seek " + k + " " + v, x.seek(0, false));
                Expect.same("KEY of " + k, x.told(7), k);
                Expect.same("VALUE of " + v, x.told(8), v);
                Expect.same("the KEY's end", x.found(0, k - 1), 5);
                Expect.same("the VALUE's end", x.found(1, v - 1), v == 0 ? 0 : 5);
                Expect.same("nothing behind the KEY", x.found(0, k), 0);
                Expect.same("nothing behind the VALUE", x.found(1, v), 0);
                Expect.same("check", x.check(), 0);
            }
        }
        KeyStore x = withTrees(1);
        Expect.badArgument("a KEY of 0 bytes", () -> x.put(0));
        x.fill(true, MOST, 1);
        x.fill(false, MOST, 1);
        Expect.off("a KEY of 8449 bytes", () -> x.key(1, 1));
        Expect.off("a VALUE of 8449 bytes", () -> x.value(1, 1));
    }

    private static void sizeOfAnEntry() {
        int[][] bytes = {{1, 0}, {1, 1}, {2, 0}, {26, 0}, {26, 1}, {1, 300}, {MOST, 0}, {1, MOST}, {MOST, MOST}};
        for (int[] b : bytes) {
            KeyStore x = withTrees(1);
            rows(x, 1, b[0], b[1]);
            x.put(0);
            Expect.same("SIZE with " + b[0] + " and " + b[1], x.told(4), 16 + b[0] + b[1]);
            x.put(x.tree());
            Expect.same("SIZE of two", x.told(4), 2 * (16 + b[0] + b[1]));
            x.remove(0);
            Expect.same("SIZE of one again", x.told(4), 16 + b[0] + b[1]);
            x.drop(1);
            Expect.same("SIZE of none", x.told(4), 0);
        }
    }

    private static void sizeOfAll() {
        KeyStore x = ofSize(MOST_SIZE - 17);
        rows(x, 99, 1, 1);
        Expect.off("36865 in TREE 0", () -> x.put(0));
        Expect.off("36865 in TREE 1", () -> x.put(1));
        rows(x, 99, 1, 0);
        Expect.yes("36864 in TREE 1", !x.put(1));
        Expect.same("SIZE", x.told(4), MOST_SIZE);
        rows(x, 98, 1, 0);
        Expect.off("17 too many", () -> x.put(0));
        x.commit();
        Expect.same("lasting", x.reopen(), 2);
        Expect.same("SIZE that lasts", x.told(4), MOST_SIZE);
        Expect.same("check", x.check(), 0);
    }

    private static void noTwoWithTheSameKey() {
        KeyStore x = withTrees(2);
        for (int i = 0; i < 3; i++) {
            Steps.put(x, 0, "same", "" + i);
            Expect.same("ENTRIES", x.told(10), 1);
        }
        Expect.yes("the last VALUE", Steps.all(x, 0).equals("same=2 "));
        Steps.put(x, 1, "same", "other");
        Expect.same("in another TREE", x.told(10) + x.told(11), 2);
        Expect.yes("each its own", Steps.all(x, 0).equals("same=2 ") && Steps.all(x, 1).equals("same=other "));
    }

    private static void newTreeIsEmpty() {
        KeyStore x = withTrees(2);
        Steps.put(x, 0, "a", "1");
        Steps.put(x, 1, "b", "2");
        x.drop(0);
        Expect.same("once more", x.tree(), 0);
        Expect.same("ENTRIES", x.told(10), 0);
        x.key(0, 0);
        Expect.yes("nothing is found", !x.seek(0, false));
        Expect.same("TREES", x.told(3), 2);
        Expect.same("SIZE", x.told(4), 18);
        Expect.same("a third", x.tree(), 2);
        Expect.same("its ENTRIES", x.told(12), 0);
    }

    private static void leastNumber() {
        KeyStore x = withTrees(64);
        int[] dropped = {63, 5, 0, 40};
        int[] due = {0, 5, 40, 63};
        for (int t : dropped) {
            x.drop(t);
        }
        for (int t : due) {
            Expect.same("the least", x.tree(), t);
        }
        x.drop(3);
        x.mark();
        Expect.same("the least again", x.tree(), 3);
        x.back(1);
        Expect.same("free again behind back", x.tree(), 3);
        x.rollback();
        x.begin();
        Expect.same("free again behind rollback", x.tree(), 0);
        x.commit();
        x.begin();
        Expect.same("not free behind commit", x.tree(), 1);
        x.reopen();
        x.begin();
        Expect.same("free again behind reopen", x.tree(), 1);
    }

    private static void treeRefused() {
        Expect.off("OFF", Steps.off()::tree);
        KeyStore x = Steps.stored();
        Expect.off("not open", x::tree);
        Expect.same("TREES", x.told(3), 1);
        x.begin();
        Expect.same("open", x.tree(), 1);
        x.commit();
        Expect.off("not open behind commit", x::tree);
        x.begin();
        x.rollback();
        Expect.off("not open behind rollback", x::tree);
    }

    private static void allAreThere() {
        KeyStore x = withTrees(63);
        Expect.same("the last", x.tree(), 63);
        Expect.off("one more", x::tree);
        Expect.same("TREES", x.told(3), 64);
        x.drop(17);
        Expect.same("one is free", x.tree(), 17);
        Expect.off("one more again", x::tree);
        x.commit();
        Expect.same("all last", x.reopen(), 64);
        x.begin();
        Expect.off("one more behind reopen", x::tree);
    }

    private static void treeGoes() {
        KeyStore x = withTrees(64);
        Steps.put(x, 0, "a", "1");
        Steps.put(x, 63, "z", "26");
        Steps.put(x, 31, "m", "13");
        int[] ends = {0, 63};
        for (int t : ends) {
            Expect.same("drop " + t, x.drop(t), 1);
            Expect.same("not there", x.told(10 + t), -1);
            Expect.noElement("seek", () -> x.seek(t, false));
            Expect.noElement("drop again", () -> x.drop(t));
        }
        Expect.same("TREES", x.told(3), 62);
        Expect.same("SIZE", x.told(4), 19);
        Expect.yes("another stays", Steps.all(x, 31).equals("m=13 "));
        x.commit();
        Expect.same("they are gone for good", x.reopen(), 62);
        Expect.same("check", x.check(), 0);
    }

    private static void howManyItHad() {
        int[] numbers = {0, 1, 2, 14, 15, 60};
        for (int n : numbers) {
            KeyStore x = withTrees(2);
            for (int k = 0; k < n; k++) {
                rows(x, k, 1, k % 3);
                x.put(1);
            }
            Steps.put(x, 0, "other", "");
            Expect.same("ENTRIES", x.told(11), n);
            Expect.same("drop with " + n, x.drop(1), n);
            Expect.same("SIZE", x.told(4), 21);
            Expect.same("check", x.check(), 0);
        }
    }

    /** OFF, or with no TRANSACTION, whether there is such a TREE or not, and with a KEY or none. */
    private static void refusedFirst(Call call) {
        int[] trees = {0, 1, 63, 64, -1, Integer.MIN_VALUE, Integer.MAX_VALUE};
        for (int t : trees) {
            Expect.off("OFF, TREE " + t, () -> call.of(Steps.off(), t));
            Expect.off("not open, TREE " + t, () -> call.of(Steps.stored(), t));
            KeyStore noKey = Steps.stored();
            noKey.key(0, 0);
            Expect.off("not open, no KEY, TREE " + t, () -> call.of(noKey, t));
        }
        KeyStore x = Steps.stored();
        Expect.off("not open", () -> call.of(x, 0));
        Expect.yes("as it was", Picture.of(x).equals(Picture.of(Steps.stored())));
        KeyStore open = Steps.stored();
        open.begin();
        call.of(open, 0);
    }

    private static void noTree(Call call) {
        KeyStore x = withTrees(64);
        for (int t : OUTSIDE) {
            Expect.noElement("TREE " + t, () -> call.of(x, t));
        }
        x.drop(63);
        x.drop(7);
        Expect.noElement("TREE 63, which is not there", () -> call.of(x, 63));
        Expect.noElement("TREE 7, which is not there", () -> call.of(x, 7));
        x.key(1, 1);
        x.fill(false, MOST, 1);
        Expect.noElement("with rows", () -> call.of(x, 63));
        Expect.same("nothing came", x.told(4), 0);
        call.of(x, 62);
        call.of(x, 0);
    }

    private static void valueIsStored() {
        KeyStore x = withTrees(64);
        int[] trees = {0, 62, 63};
        for (int t : trees) {
            Expect.yes("put in " + t, !Steps.put(x, t, "k" + t, "v" + t));
            Expect.yes("found in " + t, ("v" + t).equals(Steps.get(x, t, "k" + t)));
            Expect.same("ENTRIES of " + t, x.told(10 + t), 1);
        }
        Steps.put(x, 0, "empty", "");
        Expect.yes("an empty VALUE", "".equals(Steps.get(x, 0, "empty")));
        Steps.key(x, "empty");
        Steps.value(x, "v");
        x.put(0);
        x.value('w', 1);
        x.key('x', 1);
        Expect.yes("a copy is stored", "v".equals(Steps.get(x, 0, "empty")));
        Expect.yes("just that", Steps.all(x, 0).equals("empty=v k0=v0 "));
    }

    private static void whetherThereWas() {
        KeyStore x = withTrees(2);
        Expect.yes("none yet", !Steps.put(x, 0, "k", "12345"));
        Expect.yes("there was", Steps.put(x, 0, "k", "123"));
        Expect.yes("a longer KEY", !Steps.put(x, 0, "kk", "1"));
        Expect.yes("a beginning of one", Steps.remove(x, 0, "k") && !Steps.put(x, 0, "k", ""));
        Expect.yes("another TREE", !Steps.put(x, 1, "k", "1"));
        Expect.yes("the same again", Steps.put(x, 1, "k", "1"));
        Expect.yes("for a longer one", Steps.put(x, 0, "k", "1234567"));
        Expect.same("ENTRIES", x.told(10), 2);
        Expect.same("SIZE", x.told(4), 24 + 19 + 18);
        Expect.yes("what was put last", Steps.all(x, 0).equals("k=1234567 kk=1 "));
        x.drop(1);
        x.tree();
        Expect.yes("none in a new TREE", !Steps.put(x, 1, "k", "1"));
    }

    private static void keyIsEmpty() {
        KeyStore x = withTrees(1);
        Expect.badArgument("empty at first", () -> x.put(0));
        Expect.noElement("no TREE is looked at before", () -> x.put(1));
        x.fill(false, 3, 1);
        Expect.badArgument("with a VALUE", () -> x.put(0));
        Expect.same("nothing came", x.told(10), 0);
        x.key(0, 1);
        Expect.yes("a byte 0 is a KEY", !x.put(0));
        x.key(1, 0);
        Expect.badArgument("emptied", () -> x.put(0));
        KeyStore full = ofSize(MOST_SIZE);
        full.key(0, 0);
        Expect.badArgument("it is looked at before SIZE", () -> full.put(0));
        Expect.noElement("a TREE before both", () -> full.put(2));
        Expect.same("SIZE", full.told(4), MOST_SIZE);
    }

    private static void sizeWouldBeAbove() {
        int[] sizes = {MOST_SIZE, MOST_SIZE - 1, MOST_SIZE - 17, MOST_SIZE - 18, MOST_SIZE - 8464};
        for (int size : sizes) {
            KeyStore x = ofSize(size);
            int room = MOST_SIZE - size - 17;
            rows(x, 200, 1, Math.max(room + 1, 0));
            Expect.off("too large for " + size, () -> x.put(1));
            Expect.same("nothing came", x.told(11), 0);
            Expect.same("SIZE is as it was", x.told(4), size);
            if (room >= 0) {
                rows(x, 200, 1, room);
                Expect.yes("the largest for " + size, !x.put(1));
                Expect.same("SIZE", x.told(4), MOST_SIZE);
            }
            Expect.same("check", x.check(), 0);
        }
        KeyStore keys = withTrees(1);
        rows(keys, 1, MOST, MOST);
        keys.put(0);
        rows(keys, 2, MOST, MOST);
        keys.put(0);
        rows(keys, 3, MOST, 0);
        Expect.off("too long a KEY", () -> keys.put(0));
        rows(keys, 3, MOST_SIZE - 2 * 16912 - 16 + 1, 0);
        Expect.off("too long by one", () -> keys.put(0));
        rows(keys, 3, MOST_SIZE - 2 * 16912 - 16, 0);
        Expect.yes("as long as can be", !keys.put(0));
        Expect.same("SIZE", keys.told(4), MOST_SIZE);
    }

    private static void sizeOfWhatGoes() {
        KeyStore x = ofSize(MOST_SIZE - 100);
        rows(x, 1, 1, MOST);
        Expect.yes("the same again", x.put(0));
        Expect.same("SIZE is the same", x.told(4), MOST_SIZE - 100);
        Expect.off("in another TREE nothing goes for it", () -> x.put(1));
        rows(x, 4, 1, 0);
        Expect.yes("a VALUE goes", x.put(0));
        int room = MOST_SIZE - x.told(4);
        Expect.yes("it fits in a VALUE", room > 0 && room < MOST);
        rows(x, 4, 1, room + 1);
        Expect.off("too large by one", () -> x.put(0));
        Expect.same("the old one is there", x.told(4), MOST_SIZE - room);
        x.seek(0, false);
        Expect.same("with its VALUE", x.told(8), 0);
        rows(x, 4, 1, room);
        Expect.yes("as large as can be", x.put(0));
        Expect.same("SIZE", x.told(4), MOST_SIZE);
        Expect.yes("once more", x.put(0));
        x.value(0, 1);
        Expect.off("a byte more", () -> x.put(0));
        Expect.same("SIZE still", x.told(4), MOST_SIZE);
        Expect.same("check", x.check(), 0);
    }

    private static void entryGoes() {
        KeyStore x = withTrees(64);
        int[] trees = {0, 63};
        for (int t : trees) {
            for (int i = 0; i < 4; i++) {
                Steps.put(x, t, "aabbccdd".substring(2 * i, 2 * i + 2), "" + i);
            }
        }
        Steps.remove(x, 63, "cc");
        Expect.yes("from the middle", Steps.all(x, 63).equals("aa=0 bb=1 dd=3 "));
        Steps.remove(x, 63, "aa");
        Expect.yes("the first", Steps.all(x, 63).equals("bb=1 dd=3 "));
        Steps.remove(x, 63, "dd");
        Expect.yes("the last", Steps.all(x, 63).equals("bb=1 "));
        Steps.remove(x, 63, "bb");
        Expect.same("no ENTRIES", x.told(73), 0);
        Expect.same("TREES", x.told(3), 64);
        Expect.yes("another TREE's stay", Steps.all(x, 0).equals("aa=0 bb=1 cc=2 dd=3 "));
        Expect.same("SIZE", x.told(4), 4 * 19);
        Expect.same("check", x.check(), 0);
    }

    private static void whetherThereWasOne() {
        KeyStore x = withTrees(2);
        Expect.yes("of an empty TREE", !Steps.remove(x, 0, "k"));
        Expect.yes("no KEY in an empty TREE", !Steps.remove(x, 0, ""));
        Steps.put(x, 0, "kk", "1");
        Expect.yes("a beginning", !Steps.remove(x, 0, "k"));
        Expect.yes("a longer one", !Steps.remove(x, 0, "kk\0"));
        Expect.yes("no KEY", !Steps.remove(x, 0, ""));
        Expect.yes("another TREE", !Steps.remove(x, 1, "kk"));
        Expect.same("it is there", x.told(10), 1);
        Expect.yes("it", Steps.remove(x, 0, "kk"));
        Expect.yes("no more", !Steps.remove(x, 0, "kk"));
        x.fill(true, MOST - 2, 'k');
        x.put(0);
        Expect.yes("the longest KEY", x.remove(0));
        Expect.yes("no more of it", !x.remove(0));
        Expect.same("SIZE", x.told(4), 0);
    }
}
