/** Promises 1 to 4: a new object, key, value, fill. */
public final class RowsTest {
    private static final int MOST = 8448;

    private RowsTest() {
    }

    /** key, or value where isKey is not. */
    private static int word(KeyStore x, boolean isKey, long w, int n) {
        return isKey ? x.key(w, n) : x.value(w, n);
    }

    private static void newObject() {
        KeyStore x = new KeyStore();
        Expect.same("told 0 of a new object", x.told(0), 1);
        for (int what = 1; what <= 8; what++) {
            Expect.same("told " + what + " of a new object", x.told(what), 0);
        }
        for (int t = 0; t < 64; t++) {
            Expect.same("entries of tree " + t + " of a new object", x.told(10 + t), -1);
        }
        Expect.noElement("take of a new object", x::take);
        Expect.noElement("found of a new object", () -> x.found(0, 0));
        Expect.off("commit of a new object", x::commit);
        Expect.same("check of a new object", x.check(), 0);
        Expect.same("reopen of a new object", x.reopen(), 0);
    }

    /** The row as it comes back from the store, as a KEY or under one; it stays as it is. */
    private static String stored(KeyStore x, boolean isKey) {
        x.begin();
        int t = x.tree();
        if (!isKey) {
            x.key(0, 0);
            x.key('k', 1);
        }
        x.put(t);
        x.key(0, 0);
        x.seek(t, false);
        String text = Steps.foundText(x, isKey ? 0 : 1);
        x.take();
        x.rollback();
        return text;
    }

    private static void words(boolean isKey) {
        KeyStore x = new KeyStore();
        Expect.same("one byte", word(x, isKey, 0xFF41L, 1), 1);
        Expect.same("three more", word(x, isKey, 0x99424344L, 3), 4);
        Expect.same("eight more", word(x, isKey, 0xFF00000000000045L, 8), 12);
        Expect.same("the other row", x.told(isKey ? 6 : 5), 0);
        String due = "ABCD" + (char) 255 + "\0\0\0\0\0\0E";
        Expect.yes("the low bytes, the highest first, " + isKey, stored(x, isKey).equals(due));
        word(x, isKey, 0, 0);
        Expect.same("emptied", x.told(isKey ? 5 : 6), 0);
        Expect.same("n = 0 with a word", word(x, isKey, -1, 0), 0);
        for (int n = 1; n <= 8; n++) {
            word(x, isKey, 0, 0);
            Expect.same("n = " + n, word(x, isKey, -1, n), n);
        }
    }

    private static void wrongWords(boolean isKey) {
        KeyStore x = new KeyStore();
        int[] wrong = {-1, 9, 16, Integer.MIN_VALUE, Integer.MAX_VALUE};
        for (int n : wrong) {
            Expect.badArgument("n = " + n, () -> word(x, isKey, 1, n));
        }
        x.fill(isKey, MOST - 3, 7);
        Expect.off("four bytes, three free", () -> word(x, isKey, 1, 4));
        Expect.badArgument("n = 9 before it is full", () -> word(x, isKey, 1, 9));
        Expect.same("nothing came", x.told(isKey ? 5 : 6), MOST - 3);
        Expect.same("three bytes, three free", word(x, isKey, 1, 3), MOST);
        Expect.off("one byte more", () -> word(x, isKey, 1, 1));
        Expect.same("emptied when full", word(x, isKey, 1, 0), 0);
        KeyStore off = Steps.off();
        Expect.off("OFF", () -> word(off, isKey, 1, 1));
        Expect.off("emptied OFF", () -> word(off, isKey, 0, 0));
        Expect.badArgument("n = 9 OFF", () -> word(off, isKey, 1, 9));
        Expect.badArgument("n = -1 OFF", () -> word(off, isKey, 1, -1));
    }

    private static void fill(boolean isKey) {
        KeyStore x = new KeyStore();
        word(x, isKey, 'x', 1);
        Expect.same("fill of 0 leaves it", x.fill(isKey, 0, 65), 1);
        Expect.same("fill of 2", x.fill(isKey, 2, 0x7FFFFF41), 3);
        Expect.same("fill with a number below 0", x.fill(isKey, 1, -1), 4);
        Expect.yes("filled bytes", stored(x, isKey).equals("xAA" + (char) 255));
        Expect.same("fill up", x.fill(isKey, MOST - 4, 0), MOST);
        Expect.same("fill of 0 when full", x.fill(isKey, 0, 0), MOST);
        Expect.off("fill of 1 when full", () -> x.fill(isKey, 1, 0));
        Expect.off("fill of all when full", () -> x.fill(isKey, MOST, 0));
        word(x, isKey, 0, 0);
        Expect.same("fill of all", x.fill(isKey, MOST, 5), MOST);
        int[] wrong = {-1, MOST + 1, Integer.MIN_VALUE, Integer.MAX_VALUE};
        KeyStore off = Steps.off();
        for (int n : wrong) {
            Expect.badArgument("fill of " + n, () -> x.fill(isKey, n, 0));
            Expect.badArgument("fill of " + n + " OFF", () -> off.fill(isKey, n, 0));
        }
        Expect.off("fill OFF", () -> off.fill(isKey, 1, 0));
        Expect.off("fill of 0 OFF", () -> off.fill(isKey, 0, 0));
    }

    public static void main(String[] args) {
        newObject();
        for (int i = 0; i < 2; i++) {
            words(i == 0);
            wrongWords(i == 0);
            fill(i == 0);
        }
        Expect.end("RowsTest");
    }
}
