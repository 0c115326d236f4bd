import java.util.List;

/** Promises 9 to 11, and what the terms say of the order of KEYS and of FOUND, sentence by sentence. */
final class SeekSentences {
    private static final int MOST = 8448;
    private static final int[] OUTSIDE = {-1, 64, 256, 65536, 1 << 30, Integer.MIN_VALUE, Integer.MAX_VALUE};

    private SeekSentences() {
    }

    static List<Sentence> all() {
        return List.of(
            new Sentence(0, "in the order of their KEYS (byte by byte, each 0 to 255", SeekSentences::bytesAreNotSigned),
            new Sentence(0, "the first that differs tells", SeekSentences::firstThatDiffers),
            new Sentence(0, "a beginning is less than the whole)", SeekSentences::aBeginningIsLess),
            new Sentence(0, "FOUND is a copy of an ENTRY, or none", SeekSentences::foundIsACopy),
            new Sentence(9, "FOUND becomes the first ENTRY of TREE t with a KEY that is THE KEY", SeekSentences::theKey),
            new Sentence(9, "(which may be empty: before all)", SeekSentences::emptyKeyIsBeforeAll),
            new Sentence(9, "or behind it", SeekSentences::orBehindIt),
            new Sentence(9, "(after: behind it)", SeekSentences::behindIt),
            new Sentence(9, "or none: whether there is one", SeekSentences::orNone),
            new Sentence(9, "IllegalStateException if it is OFF", SeekSentences::seekOff),
            new Sentence(9, "NoSuchElementException if there is no TREE t", SeekSentences::seekInNone),
            new Sentence(10, "THE KEY becomes that of FOUND", SeekSentences::theKeyBecomes),
            new Sentence(10, "how many bytes", SeekSentences::howManyBytes),
            new Sentence(10, "NoSuchElementException if it is none", SeekSentences::takeOfNone),
            new Sentence(11, "Of the KEY (what 0) or VALUE (1) of FOUND", SeekSentences::keyOrValue),
            new Sentence(11, "the bytes from place from on, at most 8, the first one the highest",
                SeekSentences::atMostEight),
            new Sentence(11, "(fewer as a number of so many bytes)", SeekSentences::fewer),
            new Sentence(11, "0 if there are none there, or from is below 0", SeekSentences::noneThere),
            new Sentence(11, "IllegalArgumentException for another what", SeekSentences::anotherWhat),
            new Sentence(11, "NoSuchElementException if it is none", SeekSentences::foundOfNone));
    }

    private static KeyStore open() {
        KeyStore x = new KeyStore();
        x.begin();
        x.tree();
        return x;
    }

    /** Puts the texts as KEYS, each under its place in the row as a VALUE. */
    private static KeyStore with(String... keys) {
        KeyStore x = open();
        for (int i = 0; i < keys.length; i++) {
            Steps.put(x, 0, keys[i], "" + i);
        }
        return x;
    }

    /** Whether seeking finds just that KEY (null: none), and tells so. */
    private static boolean finds(KeyStore x, String key, boolean after, String due) {
        Steps.key(x, key);
        boolean there = x.seek(0, after);
        return there == (due != null) && (there ? Steps.foundText(x, 0).equals(due) : x.told(7) + x.told(8) == 0);
    }

    private static void bytesAreNotSigned() {
        int[] bytes = {0x80, 0, 0xFF, 0x7F, 1, 0x81, 0xFE, 0x40};
        int[] due = {0, 1, 0x40, 0x7F, 0x80, 0x81, 0xFE, 0xFF};
        int[] before = {0, 1, 25, 26, 60};
        for (int n : before) {
            KeyStore x = open();
            for (int b : bytes) {
                x.key(0, 0);
                x.fill(true, n, 0x90);
                x.key(b, 1);
                x.put(0);
            }
            x.key(0, 0);
            for (int b : due) {
                x.seek(0, true);
                Expect.same("byte " + b + " behind " + n, x.found(0, n), b);
                Expect.same("bytes", x.take(), n + 1);
            }
            Expect.yes("no more", !x.seek(0, true));
        }
    }

    /** Two KEYS of the same beginning: the low byte with high ones behind it is before the high with none. */
    private static void firstThatDiffers() {
        int[] places = {0, 1, 7, 8, 25, 26, 27, 55, 56, 57, 85, 86, 87, 4000, MOST - 2, MOST - 1};
        for (int place : places) {
            KeyStore x = open();
            x.fill(true, place, 0xAA);
            x.key(0x80, 1);
            x.put(0);
            x.key(0, 0);
            x.fill(true, place, 0xAA);
            x.key(0x7F, 1);
            x.fill(true, Math.min(100, MOST - 1 - place), 0xFF);
            x.put(0);
            x.key(0, 0);
            Expect.yes("the first", x.seek(0, false));
            Expect.same("the less at " + place, x.found(0, place) >>> 8 * (Math.min(8, x.told(7) - place) - 1), 0x7F);
            x.take();
            Expect.yes("the second", x.seek(0, true));
            Expect.same("the greater at " + place, x.found(0, place), 0x80);
            Expect.same("ENTRIES", x.told(10), 2);
        }
    }

    private static void aBeginningIsLess() {
        int[] lengths = {1, 2, 8, 25, 26, 27, 55, 56, 57, 4000, MOST - 1};
        int[] bytes = {0, 255};
        for (int n : lengths) {
            for (int b : bytes) {
                KeyStore x = open();
                x.fill(true, n, b);
                x.key(0, 1);
                x.put(0);
                x.key(0, 0);
                x.fill(true, n, b);
                x.put(0);
                Expect.yes("it itself", x.seek(0, false));
                Expect.same("is the beginning", x.told(7), n);
                Expect.yes("behind it", x.seek(0, true));
                Expect.same("is the whole", x.take(), n + 1);
                Expect.yes("behind that is none", !x.seek(0, true));
                x.key(0, 0);
                x.seek(0, false);
                Expect.same("the first is the beginning", x.told(7), n);
            }
        }
    }

    private static void foundIsACopy() {
        KeyStore x = Steps.stored();
        Expect.noElement("none at first", x::take);
        x.begin();
        Expect.yes("seek", "2".equals(Steps.get(x, 0, "b")));
        Steps.put(x, 0, "b", "other");
        Expect.yes("behind put", Steps.foundText(x, 1).equals("2"));
        Steps.remove(x, 0, "b");
        Expect.yes("behind remove", Steps.foundText(x, 0).equals("b"));
        x.drop(0);
        Expect.yes("behind drop", Steps.foundText(x, 1).equals("2"));
        x.tree();
        x.fill(false, 2000, 9);
        x.put(0);
        Expect.yes("behind other ENTRIES", Steps.foundText(x, 0).equals("b"));
        x.key(0, 0);
        x.key('z', 1);
        x.value(0, 0);
        Expect.yes("behind key and value", Steps.foundText(x, 1).equals("2"));
        x.commit();
        Expect.same("it can be taken", x.take(), 1);
    }

    private static void theKey() {
        KeyStore x = with("b", "bb", "d", "\u00ff");
        String[] keys = {"b", "bb", "d", "\u00ff"};
        for (String key : keys) {
            Expect.yes("found itself: " + key, finds(x, key, false, key));
        }
        Expect.yes("with its VALUE", Steps.foundText(x, 1).equals("3"));
        x.tree();
        Steps.put(x, 1, "bb", "of 1");
        x.seek(1, false);
        Expect.yes("of that TREE", Steps.foundText(x, 1).equals("of 1"));
        x.commit();
        Expect.yes("no TRANSACTION is needed", finds(x, "bb", false, "bb"));
        KeyStore longest = open();
        longest.fill(true, MOST, 255);
        longest.put(0);
        Expect.yes("the longest", longest.seek(0, false));
        Expect.same("it itself", longest.told(7), MOST);
    }

    private static void emptyKeyIsBeforeAll() {
        KeyStore x = with("\0", "a");
        Expect.yes("from it on", finds(x, "", false, "\0"));
        Expect.yes("behind it", finds(x, "", true, "\0"));
        Expect.same("it stays empty", x.told(5), 0);
        Expect.yes("a byte 0 is not empty", finds(x, "\0", true, "a"));
        KeyStore one = open();
        one.fill(true, MOST, 255);
        one.put(0);
        one.key(0, 0);
        Expect.yes("before the longest", one.seek(0, true));
        Expect.same("it", one.told(7), MOST);
    }

    private static void orBehindIt() {
        KeyStore x = with("b", "bb", "d\u0080", "d\u007f");
        String[] keys = {"a", "a\u00ff", "b\0", "ba\u00ff", "bc", "d", "d\u007f\0"};
        String[] due = {"b", "b", "bb", "bb", "d\u007f", "d\u007f", "d\u0080"};
        for (int i = 0; i < keys.length; i++) {
            Expect.yes("from one that is not there, " + i, finds(x, keys[i], false, due[i]));
            Expect.yes("behind one that is not there, " + i, finds(x, keys[i], true, due[i]));
        }
    }

    private static void behindIt() {
        KeyStore x = with("b", "bb", "d\u0080", "d\u007f");
        Expect.yes("the next", finds(x, "b", true, "bb"));
        Expect.yes("the one behind that", finds(x, "bb", true, "d\u007f"));
        Expect.yes("the last", finds(x, "d\u007f", true, "d\u0080"));
        Expect.yes("behind the last", finds(x, "d\u0080", true, null));
        KeyStore many = open();
        for (int k = 0; k < 60; k++) {
            many.key(0, 0);
            many.key(k * 37 % 60, 1);
            many.put(0);
        }
        many.key(0, 0);
        for (int k = 0; k < 60; k++) {
            Expect.yes("there is one", many.seek(0, true));
            Expect.same("of many", many.found(0, 0), k);
            many.take();
        }
        Expect.yes("no more of many", !many.seek(0, true));
    }

    private static void orNone() {
        KeyStore x = open();
        Expect.yes("in an empty TREE", finds(x, "", false, null));
        Expect.yes("behind, in an empty TREE", finds(x, "", true, null));
        Steps.put(x, 0, "m", "1");
        Expect.yes("from the only one on", finds(x, "m", false, "m"));
        Expect.yes("from behind the only one", finds(x, "m\0", false, null));
        Expect.noElement("FOUND is none", x::take);
        Expect.yes("there again", finds(x, "", false, "m"));
        Expect.yes("behind the only one", finds(x, "m", true, null));
        Expect.noElement("FOUND is none again", () -> x.found(0, 0));
        finds(x, "m", false, "m");
        x.tree();
        Expect.yes("none in another TREE", !x.seek(1, false));
        Expect.same("FOUND is none of it", x.told(7) + x.told(8), 0);
        x.key(0, 0);
        x.fill(true, MOST, 255);
        Expect.yes("behind all", !x.seek(0, false));
    }

    private static void seekOff() {
        KeyStore x = Steps.off();
        Expect.off("a TREE that was there", () -> x.seek(0, false));
        Expect.off("the same, after", () -> x.seek(0, true));
        for (int t : OUTSIDE) {
            Expect.off("OFF, TREE " + t, () -> x.seek(t, false));
        }
        x.reopen();
        Expect.yes("on again", x.seek(0, false));
    }

    private static void seekInNone() {
        KeyStore x = Steps.stored();
        Steps.get(x, 0, "b");
        for (int t : OUTSIDE) {
            Expect.noElement("TREE " + t, () -> x.seek(t, false));
            Expect.noElement("after, TREE " + t, () -> x.seek(t, true));
        }
        Expect.noElement("TREE 1, which is not there", () -> x.seek(1, false));
        Expect.noElement("TREE 63, which is not there", () -> x.seek(63, false));
        Expect.yes("FOUND is as it was", Steps.foundText(x, 0).equals("b"));
        x.begin();
        x.drop(0);
        Expect.noElement("TREE 0, which went", () -> x.seek(0, false));
    }

    private static void theKeyBecomes() {
        KeyStore x = with("first", "second");
        Steps.key(x, "firsu");
        x.seek(0, false);
        Expect.same("seek leaves THE KEY", x.told(5), 5);
        x.take();
        Expect.yes("it is the second's", x.remove(0));
        Expect.yes("the first is there", Steps.all(x, 0).equals("first=0 "));
        Steps.get(x, 0, "first");
        x.fill(true, 500, 1);
        Expect.same("from a long one", x.take(), 5);
        x.key('s', 1);
        x.put(0);
        Expect.yes("it goes on from there", Steps.get(x, 0, "firsts") != null);
        Expect.yes("FOUND stays", Steps.foundText(x, 0).equals("firsts"));
    }

    private static void howManyBytes() {
        int[] lengths = {1, 2, 8, 9, 26, 27, MOST - 1, MOST};
        for (int n : lengths) {
            KeyStore x = open();
            x.fill(true, n, 3);
            x.fill(false, 5, 4);
            x.put(0);
            x.key(0, 0);
            x.seek(0, false);
            Expect.same("take of " + n, x.take(), n);
            Expect.same("THE KEY", x.told(5), n);
            Expect.same("THE VALUE stays", x.told(6), 5);
            Expect.same("take again", x.take(), n);
            Expect.yes("it is the KEY", x.remove(0));
        }
    }

    private static void takeOfNone() {
        KeyStore x = Steps.stored();
        Expect.noElement("nothing was looked for", x::take);
        Expect.same("THE KEY stays", x.told(5), 1);
        Steps.get(x, 0, "b");
        x.seek(0, true);
        Expect.noElement("nothing was found", x::take);
        Expect.same("THE KEY still stays", x.told(5), 1);
        Steps.get(x, 0, "b");
        Expect.same("one was found", x.take(), 1);
        x.reopen();
        Expect.noElement("behind reopen", x::take);
        Expect.noElement("OFF", Steps.off()::take);
    }

    private static KeyStore withFound(String key, String value) {
        KeyStore x = open();
        Steps.put(x, 0, key, value);
        x.seek(0, false);
        return x;
    }

    private static void keyOrValue() {
        KeyStore x = withFound("k", "v");
        Expect.same("the KEY", x.found(0, 0), 'k');
        Expect.same("the VALUE", x.found(1, 0), 'v');
        KeyStore empty = withFound("key", "");
        Expect.same("the KEY beside an empty VALUE", empty.found(0, 0), 0x6B6579);
        Expect.same("an empty VALUE", empty.found(1, 0), 0);
        Expect.same("an empty VALUE from 1", empty.found(1, 1), 0);
    }

    private static void atMostEight() {
        String text = "\u00ff\u0001\u0080\u0003\u0004\u0005\u0006\u0007\u0008\u0009";
        for (int what = 0; what <= 1; what++) {
            KeyStore x = what == 0 ? withFound(text, "") : withFound("k", text);
            Expect.same("from 0", x.found(what, 0), 0xFF01800304050607L);
            Expect.same("from 1", x.found(what, 1), 0x0180030405060708L);
            Expect.same("from 2, the last eight", x.found(what, 2), 0x8003040506070809L);
        }
        KeyStore x = withFound("12345678", "");
        Expect.same("all eight", x.found(0, 0), 0x3132333435363738L);
    }

    private static void fewer() {
        String text = "\u00f0\u00f1\u00f2\u00f3\u00f4\u00f5\u00f6\u00f7\u00f8\u00f9";
        long[] due = {0xF3F4F5F6F7F8F9L, 0xF4F5F6F7F8F9L, 0xF5F6F7F8F9L, 0xF6F7F8F9L, 0xF7F8F9L, 0xF8F9L, 0xF9L};
        for (int what = 0; what <= 1; what++) {
            KeyStore x = what == 0 ? withFound(text, "") : withFound("k", text);
            for (int i = 0; i < due.length; i++) {
                Expect.same("from " + (3 + i), x.found(what, 3 + i), due[i]);
            }
        }
        Expect.same("one byte in all", withFound("\u0080", "").found(0, 0), 0x80);
        KeyStore longest = open();
        longest.fill(true, MOST, 0xE1);
        longest.fill(false, MOST, 0xE2);
        longest.put(0);
        longest.seek(0, false);
        Expect.same("the last of the longest KEY", longest.found(0, MOST - 1), 0xE1);
        Expect.same("the last two of the longest VALUE", longest.found(1, MOST - 2), 0xE2E2);
        Expect.same("the last eight of it", longest.found(1, MOST - 8), 0xE2E2E2E2E2E2E2E2L);
    }

    private static void noneThere() {
        KeyStore x = withFound("\u00ff\u00ff\u00ff", "\u00ff\u00ff\u00ff");
        int[] outside = {3, 4, 11, MOST, MOST + 1, 65536, 1 << 30, Integer.MAX_VALUE, Integer.MAX_VALUE - 7, -1, -2, -3,
            -8, -9, -MOST, Integer.MIN_VALUE, Integer.MIN_VALUE + 1};
        for (int from : outside) {
            Expect.same("KEY from " + from, x.found(0, from), 0);
            Expect.same("VALUE from " + from, x.found(1, from), 0);
        }
        Expect.same("the last place", x.found(0, 2), 255);
        Expect.same("the first place", x.found(1, 0), 0xFFFFFF);
    }

    private static void anotherWhat() {
        int[] wrong = {-1, 2, 3, 7, 8, 256, 257, 65536, Integer.MIN_VALUE, Integer.MIN_VALUE + 1, Integer.MAX_VALUE};
        KeyStore x = withFound("k", "v");
        for (int what : wrong) {
            Expect.badArgument("what " + what, () -> x.found(what, 0));
            Expect.badArgument("what " + what + " from -1", () -> x.found(what, -1));
        }
    }

    private static void foundOfNone() {
        KeyStore none = new KeyStore();
        KeyStore off = Steps.off();
        KeyStore behind = withFound("k", "v");
        behind.seek(0, true);
        for (int what = 0; what <= 1; what++) {
            int which = what;
            Expect.noElement("at first", () -> none.found(which, 0));
            Expect.noElement("from below 0", () -> none.found(which, -1));
            Expect.noElement("behind the last", () -> behind.found(which, 0));
            Expect.noElement("OFF", () -> off.found(which, 0));
        }
        KeyStore x = withFound("k", "v");
        x.commit();
        Expect.same("behind commit", x.found(0, 0), 'k');
        x.reopen();
        Expect.noElement("behind reopen", () -> x.found(0, 0));
    }
}
