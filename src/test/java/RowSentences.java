import java.util.List;

/** Promises 1 to 4, and what the terms say of THE KEY and THE VALUE, sentence by sentence. */
final class RowSentences {
    private static final int MOST = 8448;
    private static final long WORD = 0x8182838485868788L;

    private RowSentences() {
    }

    static List<Sentence> all() {
        return List.of(
            new Sentence(0, "THE KEY and THE VALUE are rows of bytes that calls make, at most 8448, empty at first",
                RowSentences::rowsAtFirst),
            new Sentence(1, "No TREES", RowSentences::noTrees),
            new Sentence(1, "it is on, no TRANSACTION is open", RowSentences::onAndNotOpen),
            new Sentence(2, "The low n bytes (1 to 8) of w, the highest first, come to the end of THE KEY",
                () -> lowBytes(true)),
            new Sentence(2, "with n = 0 it is empty", () -> emptied(true)),
            new Sentence(2, "how many bytes it has", () -> howManyBytes(true)),
            new Sentence(2, "IllegalStateException if it is OFF", () -> wordOff(true)),
            new Sentence(2, "or there would be more than 8448", () -> wordTooMany(true)),
            new Sentence(2, "IllegalArgumentException if n is not 0 to 8", () -> wordOutside(true)),
            new Sentence(2, "(looked at first)", () -> wordOutsideFirst(true)),
            new Sentence(3, "Likewise for THE VALUE", () -> lowBytes(false)),
            new Sentence(3, "Likewise for THE VALUE", () -> emptied(false)),
            new Sentence(3, "Likewise for THE VALUE", () -> howManyBytes(false)),
            new Sentence(3, "Likewise for THE VALUE", () -> wordOff(false)),
            new Sentence(3, "Likewise for THE VALUE", () -> wordTooMany(false)),
            new Sentence(3, "Likewise for THE VALUE", () -> wordOutside(false)),
            new Sentence(3, "Likewise for THE VALUE", () -> wordOutsideFirst(false)),
            new Sentence(4, "n (0 to 8448) bytes b", RowSentences::fillFewAndMany),
            new Sentence(4, "(its low 8 bits)", RowSentences::fillLowBits),
            new Sentence(4, "come to the end of THE KEY, or else THE VALUE", RowSentences::fillAtTheEnd),
            new Sentence(4, "how many it has", RowSentences::fillHowMany),
            new Sentence(4, "Thrown as by key", RowSentences::fillOff),
            new Sentence(4, "Thrown as by key", RowSentences::fillTooMany),
            new Sentence(4, "Thrown as by key", RowSentences::fillOutside),
            new Sentence(4, "Thrown as by key", RowSentences::fillOutsideFirst));
    }

    private static int word(KeyStore x, boolean isKey, long w, int n) {
        return isKey ? x.key(w, n) : x.value(w, n);
    }

    private static int length(KeyStore x, boolean isKey) {
        return x.told(isKey ? 5 : 6);
    }

    /** THE KEY (or else THE VALUE) as it comes back from a TREE. */
    private static String row(KeyStore x, boolean isKey) {
        x.begin();
        int t = x.tree();
        if (x.told(5) == 0) {
            x.key('k', 1);
        }
        x.put(t);
        x.seek(t, false);
        x.rollback();
        return Steps.foundText(x, isKey ? 0 : 1);
    }

    private static KeyStore filled(boolean isKey, int n) {
        KeyStore x = new KeyStore();
        x.fill(isKey, n, 7);
        return x;
    }

    private static void rowsAtFirst() {
        KeyStore x = new KeyStore();
        Expect.same("THE KEY at first", x.told(5), 0);
        Expect.same("THE VALUE at first", x.told(6), 0);
        for (int i = 0; i < 2; i++) {
            boolean isKey = i == 0;
            Expect.same("8448 bytes", filled(isKey, MOST - 1).fill(isKey, 1, 0), MOST);
            Expect.off("a byte more", () -> filled(isKey, MOST).fill(isKey, 1, 0));
        }
    }

    private static void noTrees() {
        KeyStore x = new KeyStore();
        Expect.same("TREES", x.told(3), 0);
        for (int t = 0; t < 64; t++) {
            Expect.same("TREE " + t, x.told(10 + t), -1);
        }
        Expect.noElement("seek in 0", () -> x.seek(0, false));
        Expect.same("SIZE", x.told(4), 0);
        Expect.same("lasting TREES", x.reopen(), 0);
        x.begin();
        Expect.same("the first TREE", x.tree(), 0);
    }

    private static void onAndNotOpen() {
        KeyStore x = new KeyStore();
        Expect.same("on", x.told(0), 1);
        Expect.same("open", x.told(1), 0);
        Expect.same("MARKS", x.told(2), 0);
        Expect.off("commit", x::commit);
        Expect.off("rollback", x::rollback);
        x.begin();
        Expect.same("open then", x.told(1), 1);
    }

    private static void lowBytes(boolean isKey) {
        for (int n = 1; n <= 8; n++) {
            KeyStore x = new KeyStore();
            word(x, isKey, 0xFF00, 2);
            word(x, isKey, WORD, n);
            StringBuilder due = new StringBuilder("\u00ff\0");
            for (int i = n - 1; i >= 0; i--) {
                due.append((char) (0x88 - i));
            }
            Expect.yes(n + " bytes of a word", row(x, isKey).equals(due.toString()));
        }
        long[] words = {0, -1, Long.MIN_VALUE, Long.MAX_VALUE, 0x100, 0xFF};
        for (long w : words) {
            KeyStore x = new KeyStore();
            word(x, isKey, w, 1);
            word(x, isKey, w, 8);
            x.begin();
            int t = x.tree();
            x.key('k', 1);
            x.put(t);
            x.seek(t, false);
            Expect.same("the low byte of " + w, x.found(isKey ? 0 : 1, 0) >>> 56, w & 255);
            Expect.same("all of " + w, x.found(isKey ? 0 : 1, 1), w);
        }
    }

    private static void emptied(boolean isKey) {
        int[] lengths = {0, 1, 8, 8440, 8441, MOST - 1, MOST};
        for (int length : lengths) {
            KeyStore x = filled(isKey, length);
            x.fill(!isKey, 3, 1);
            Expect.same("n = 0 after " + length, word(x, isKey, -1, 0), 0);
            Expect.same("it is empty", length(x, isKey), 0);
            Expect.same("the other is not", length(x, !isKey), 3);
            word(x, isKey, 'a', 1);
            Expect.yes("it begins anew", row(x, isKey).equals("a"));
        }
    }

    private static void howManyBytes(boolean isKey) {
        KeyStore x = new KeyStore();
        int due = 0;
        for (int n = 1; n <= 8; n++) {
            due += n;
            Expect.same("with " + n + " more", word(x, isKey, 0, n), due);
            Expect.same("told", length(x, isKey), due);
            Expect.same("the other row", length(x, !isKey), 0);
        }
        Expect.same("the last byte", word(filled(isKey, MOST - 1), isKey, 0, 1), MOST);
        Expect.same("the last eight", word(filled(isKey, MOST - 8), isKey, 0, 8), MOST);
        Expect.same("emptied", word(x, isKey, 9, 0), 0);
    }

    private static void wordOff(boolean isKey) {
        KeyStore x = Steps.off();
        for (int n = 0; n <= 8; n++) {
            int bytes = n;
            Expect.off("OFF, n = " + n, () -> word(x, isKey, 1, bytes));
        }
        x.reopen();
        Expect.same("nothing came", length(x, isKey), 0);
        Expect.same("on again", word(x, isKey, 1, 8), 8);
    }

    private static void wordTooMany(boolean isKey) {
        for (int n = 1; n <= 8; n++) {
            int bytes = n;
            KeyStore last = filled(isKey, MOST - n);
            Expect.same(n + " to 8448", word(last, isKey, WORD, n), MOST);
            for (int more = 1; more <= n; more++) {
                KeyStore x = filled(isKey, MOST - n + more);
                Expect.off(n + " bytes, " + more + " too many", () -> word(x, isKey, WORD, bytes));
                Expect.same("none came", length(x, isKey), MOST - n + more);
            }
        }
        KeyStore full = filled(isKey, MOST);
        Expect.same("the other row has room", word(full, !isKey, 1, 8), 8);
        Expect.same("n = 0 is never too many", word(full, isKey, 1, 0), 0);
    }

    private static int[] outside() {
        return new int[] {-1, 9, 10, 64, -8, 256, 257, 65536, 65544, Integer.MIN_VALUE, Integer.MIN_VALUE + 8,
            Integer.MAX_VALUE};
    }

    private static void wordOutside(boolean isKey) {
        KeyStore x = filled(isKey, 5);
        for (int n : outside()) {
            Expect.badArgument("n = " + n, () -> word(x, isKey, 1, n));
        }
        Expect.same("as it was", length(x, isKey), 5);
        Expect.same("the last n that is taken", word(x, isKey, 1, 8), 13);
        Expect.same("the first n that is taken", word(x, isKey, 1, 0), 0);
    }

    private static void wordOutsideFirst(boolean isKey) {
        KeyStore off = Steps.off();
        KeyStore full = filled(isKey, MOST);
        for (int n : outside()) {
            Expect.badArgument("OFF, n = " + n, () -> word(off, isKey, 1, n));
            Expect.badArgument("full, n = " + n, () -> word(full, isKey, 1, n));
        }
        Expect.same("as it was", length(full, isKey), MOST);
    }

    private static void fillFewAndMany() {
        for (int i = 0; i < 2; i++) {
            boolean isKey = i == 0;
            Expect.same("0 bytes to an empty row", new KeyStore().fill(isKey, 0, 65), 0);
            Expect.same("0 bytes to 5", filled(isKey, 5).fill(isKey, 0, 65), 5);
            Expect.same("0 bytes to a full row", filled(isKey, MOST).fill(isKey, 0, 65), MOST);
            Expect.same("1 byte", new KeyStore().fill(isKey, 1, 65), 1);
            Expect.same("8447 bytes", new KeyStore().fill(isKey, MOST - 1, 65), MOST - 1);
            Expect.same("8448 bytes", new KeyStore().fill(isKey, MOST, 65), MOST);
        }
    }

    private static void fillLowBits() {
        int[] numbers = {0, 1, 127, 128, 255, 256, 257, 511, -1, -128, -256, Integer.MIN_VALUE, Integer.MAX_VALUE};
        for (int b : numbers) {
            KeyStore x = new KeyStore();
            x.fill(true, 2, b);
            x.fill(false, 1, b);
            char due = (char) (b & 255);
            Expect.yes("THE KEY of " + b, row(x, true).equals("" + due + due));
            Expect.same("THE VALUE of " + b, x.found(1, 0), due);
        }
    }

    private static void fillAtTheEnd() {
        KeyStore x = new KeyStore();
        x.key('a', 1);
        x.value('v', 1);
        x.fill(true, 2, 'b');
        x.fill(false, 3, 'w');
        x.fill(true, 0, 'x');
        x.fill(false, 0, 'x');
        x.key('c', 1);
        x.value('y', 1);
        Expect.yes("THE KEY", row(x, true).equals("abbc"));
        Expect.yes("THE VALUE", Steps.foundText(x, 1).equals("vwwwy"));
        KeyStore full = filled(true, MOST);
        full.key(0, 0);
        full.fill(true, MOST - 1, 'p');
        full.fill(true, 1, 'q');
        full.begin();
        full.put(full.tree());
        full.seek(0, false);
        Expect.same("its ends", full.found(0, MOST - 8), 0x7070707070707071L);
        Expect.same("its beginning", full.found(0, 0), 0x7070707070707070L);
    }

    private static void fillHowMany() {
        KeyStore x = new KeyStore();
        int[] more = {1, 0, 31, 8, 8408, 0};
        int due = 0;
        for (int n : more) {
            due += n;
            Expect.same("THE KEY, " + n + " more", x.fill(true, n, 0), due);
            Expect.same("THE VALUE, " + n + " more", x.fill(false, n, 0), due);
            Expect.same("told of THE KEY", x.told(5), due);
            Expect.same("told of THE VALUE", x.told(6), due);
        }
        Expect.same("all of them", due, MOST);
    }

    private static void fillOff() {
        KeyStore x = Steps.off();
        int[] numbers = {0, 1, MOST};
        for (int n : numbers) {
            Expect.off("THE KEY OFF, n = " + n, () -> x.fill(true, n, 0));
            Expect.off("THE VALUE OFF, n = " + n, () -> x.fill(false, n, 0));
        }
        x.reopen();
        Expect.same("nothing came", x.told(5) + x.told(6), 0);
    }

    private static void fillTooMany() {
        int[] lengths = {1, 2, 4224, MOST - 1, MOST};
        for (int i = 0; i < 2; i++) {
            boolean isKey = i == 0;
            for (int length : lengths) {
                KeyStore x = filled(isKey, length);
                Expect.off("one too many to " + length, () -> x.fill(isKey, MOST - length + 1, 0));
                Expect.off("8448 to " + length, () -> x.fill(isKey, MOST, 0));
                Expect.same("none came", length(x, isKey), length);
                Expect.same("the other has room", x.fill(!isKey, MOST, 0), MOST);
                Expect.same("just as many", x.fill(isKey, MOST - length, 0), MOST);
            }
        }
    }

    private static int[] fillsOutside() {
        return new int[] {-1, MOST + 1, -MOST, 65536, Integer.MIN_VALUE, Integer.MAX_VALUE, Integer.MAX_VALUE - 4};
    }

    private static void fillOutside() {
        for (int i = 0; i < 2; i++) {
            boolean isKey = i == 0;
            KeyStore x = filled(isKey, 5);
            for (int n : fillsOutside()) {
                Expect.badArgument("n = " + n, () -> x.fill(isKey, n, 0));
            }
            Expect.same("as it was", length(x, isKey), 5);
        }
    }

    private static void fillOutsideFirst() {
        KeyStore off = Steps.off();
        for (int i = 0; i < 2; i++) {
            boolean isKey = i == 0;
            KeyStore full = filled(isKey, MOST);
            for (int n : fillsOutside()) {
                Expect.badArgument("OFF, n = " + n, () -> off.fill(isKey, n, 0));
                Expect.badArgument("full, n = " + n, () -> full.fill(isKey, n, 0));
                Expect.badArgument("empty, n = " + n, () -> new KeyStore().fill(isKey, n, 0));
            }
        }
    }
}
