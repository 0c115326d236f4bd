import java.util.List;

/** Promises 20 and 21, and how many calls an object is used for, sentence by sentence. */
final class ToldSentences {
    private static final int MOST = 8448;
    private static final int CALLS = 512;

    /** A call whose answer is told. */
    interface Call {
        long of(KeyStore x);
    }

    private ToldSentences() {
    }

    static List<Sentence> all() {
        return List.of(
            new Sentence(0, "An object is used for at most 512 calls after it has been made; what later calls answer is free.",
                ToldSentences::lastCallOfEachKind),
            new Sentence(0, "An object is used for at most 512 calls after it has been made; what later calls answer is free.",
                ToldSentences::callsOfOneKind),
            new Sentence(0, "An object is used for at most 512 calls after it has been made; what later calls answer is free.",
                ToldSentences::callsThatStoreMost),
            new Sentence(20, "What 0: 1 if it is on, 0 if OFF", ToldSentences::onOrOff),
            new Sentence(20, "1: 1 if a TRANSACTION is open", ToldSentences::openOrNot),
            new Sentence(20, "2: MARKS", ToldSentences::marks),
            new Sentence(20, "3: TREES", ToldSentences::trees),
            new Sentence(20, "4: SIZE", ToldSentences::size),
            new Sentence(20, "5, 6: bytes of THE KEY, of THE VALUE", ToldSentences::bytesOfRows),
            new Sentence(20, "7, 8: of the KEY, the VALUE of FOUND (0 if it is none)", ToldSentences::bytesOfFound),
            new Sentence(20, "10 + t: ENTRIES of TREE t (0 to 63), -1 if it is not there", ToldSentences::entries),
            new Sentence(20, "1 to 73 are 0 if it is OFF", ToldSentences::zeroIfOff),
            new Sentence(20, "IllegalArgumentException for others", ToldSentences::others),
            new Sentence(20, "(9, too)", ToldSentences::nineToo),
            new Sentence(21, "How much is wrong in the pages: each belongs to one tree, one chain or the free ones",
                ToldSentences::pagesOfAll),
            new Sentence(21, "ENTRIES are in order, each where it is looked for", ToldSentences::inOrder),
            new Sentence(21, "ENTRIES are in order, each where it is looked for", ToldSentences::inOrderDeep),
            new Sentence(21, "what is counted is so: always 0", ToldSentences::always),
            new Sentence(21, "IllegalStateException if it is OFF", ToldSentences::checkOff));
    }

    /** A store that was used for n calls: a TRANSACTION is open, TREE 0 has "k", which is FOUND, there is a MARK. */
    private static KeyStore used(int n) {
        KeyStore x = new KeyStore();
        x.begin();
        x.tree();
        x.key('k', 1);
        x.value('v', 1);
        x.put(0);
        x.seek(0, false);
        x.mark();
        for (int i = 7; i < n; i++) {
            x.told(0);
        }
        return x;
    }

    private static void lastCallOfEachKind() {
        List<Call> calls = List.of(x -> x.key(1, 1), x -> x.value(1, 8), x -> x.fill(true, 9, 1), KeyStore::tree,
            x -> x.drop(0), x -> x.put(0) ? 1 : 0, x -> x.remove(0) ? 1 : 0, x -> x.seek(0, true) ? 1 : 0,
            KeyStore::take, x -> x.found(1, 0), KeyStore::mark, KeyStore::reopen, x -> x.told(4), KeyStore::check);
        long[] due = {2, 9, 10, 1, 1, 1, 1, 0, 1, 'v', 2, 0, 18, 0};
        for (int i = 0; i < due.length; i++) {
            Expect.same("call 512, kind " + i, calls.get(i).of(used(CALLS - 1)), due[i]);
        }
        Expect.off("begin as call 512", used(CALLS - 1)::begin);
        used(CALLS - 1).commit();
        used(CALLS - 1).rollback();
        used(CALLS - 1).back(1);
        used(CALLS - 1).keep(1);
        used(CALLS - 1).power(0, 0, 0);
    }

    private static void callsOfOneKind() {
        KeyStore reopened = new KeyStore();
        KeyStore committed = new KeyStore();
        KeyStore marked = new KeyStore();
        KeyStore refused = new KeyStore();
        marked.begin();
        marked.tree();
        for (int i = 0; i < CALLS / 2; i++) {
            Expect.same("reopen", reopened.reopen(), 0);
            Expect.same("reopen", reopened.reopen(), 0);
            committed.begin();
            committed.commit();
            Expect.off("commit of none", refused::commit);
            Expect.noElement("seek in none", () -> refused.seek(0, false));
        }
        for (int i = 0; i < CALLS / 2 - 1; i++) {
            Expect.same("mark", marked.mark(), 1);
            marked.keep(1);
        }
        KeyStore back = new KeyStore();
        back.begin();
        back.mark();
        for (int i = 0; i < CALLS / 2 - 1; i++) {
            Expect.same("tree", back.tree(), 0);
            back.back(1);
        }
    }

    /** In 512 calls as many ENTRIES, and as many changes of large ones, as can be. */
    private static void callsThatStoreMost() {
        KeyStore many = new KeyStore();
        many.begin();
        many.tree();
        many.value('v', 1);
        for (int i = 0; i < 254; i++) {
            many.key(i, 1);
            Expect.yes("a new KEY", !many.put(0));
        }
        Expect.same("call 512", many.told(10), 254);
        KeyStore large = new KeyStore();
        large.begin();
        large.tree();
        large.fill(true, MOST, 1);
        large.fill(false, MOST, 2);
        large.put(0);
        for (int i = 5; i < CALLS - 2; i++) {
            Expect.yes("put again", large.put(0));
        }
        large.commit();
        Expect.same("check as call 512", large.check(), 0);
    }

    private static void onOrOff() {
        KeyStore x = Steps.stored();
        Expect.same("on", x.told(0), 1);
        x.power(2, 0, 0);
        x.begin();
        Expect.same("on till it fails", x.told(0), 1);
        Expect.powerFails("commit", x::commit);
        Expect.same("OFF", x.told(0), 0);
        x.reopen();
        Expect.same("on again", x.told(0), 1);
        x.power(3, 0, 0);
        Expect.powerFails("reopen", x::reopen);
        Expect.same("OFF again", x.told(0), 0);
    }

    private static void openOrNot() {
        KeyStore x = new KeyStore();
        Expect.same("at first", x.told(1), 0);
        x.begin();
        Expect.same("open", x.told(1), 1);
        x.mark();
        Expect.same("open still", x.told(1), 1);
        x.commit();
        Expect.same("behind commit", x.told(1), 0);
        x.begin();
        x.rollback();
        Expect.same("behind rollback", x.told(1), 0);
        x.begin();
        x.reopen();
        Expect.same("behind reopen", x.told(1), 0);
    }

    private static void marks() {
        KeyStore x = new KeyStore();
        Expect.same("at first", x.told(2), 0);
        x.begin();
        for (int m = 1; m <= 5; m++) {
            x.mark();
            Expect.same("MARKS", x.told(2), m);
        }
        x.back(4);
        Expect.same("behind back", x.told(2), 4);
        x.keep(1);
        Expect.same("behind keep", x.told(2), 0);
    }

    private static void trees() {
        KeyStore x = new KeyStore();
        Expect.same("at first", x.told(3), 0);
        x.begin();
        for (int t = 1; t <= 64; t++) {
            x.tree();
            Expect.same("TREES", x.told(3), t);
        }
        x.drop(63);
        x.drop(0);
        Expect.same("behind drop", x.told(3), 62);
        x.rollback();
        Expect.same("behind rollback", x.told(3), 0);
    }

    private static void size() {
        KeyStore x = Steps.stored();
        Expect.same("two of 18", x.told(4), 36);
        x.begin();
        Steps.put(x, 0, "b", "");
        Expect.same("a VALUE less", x.told(4), 35);
        Steps.put(x, x.tree(), "b", "xyz");
        Expect.same("another TREE's, too", x.told(4), 55);
        Steps.remove(x, 0, "a");
        Expect.same("behind remove", x.told(4), 37);
        x.drop(1);
        Expect.same("behind drop", x.told(4), 17);
        x.rollback();
        Expect.same("behind rollback", x.told(4), 36);
        x.begin();
        x.drop(0);
        Expect.same("of none", x.told(4), 0);
        x.tree();
        x.key(0, 0);
        x.fill(true, MOST, 0);
        x.value(0, 0);
        x.fill(false, MOST, 0);
        x.put(0);
        x.put(x.tree());
        x.value(0, 0);
        x.key(0, 0);
        x.fill(true, 3024, 0);
        x.put(0);
        Expect.same("the most", x.told(4), 36864);
    }

    private static void bytesOfRows() {
        KeyStore x = new KeyStore();
        Expect.same("THE KEY at first", x.told(5), 0);
        Expect.same("THE VALUE at first", x.told(6), 0);
        x.key(0, 3);
        Expect.same("THE KEY", x.told(5), 3);
        Expect.same("not THE VALUE", x.told(6), 0);
        x.value(0, 8);
        Expect.same("not THE KEY", x.told(5), 3);
        Expect.same("THE VALUE", x.told(6), 8);
        x.fill(true, MOST - 3, 0);
        x.fill(false, MOST - 8, 0);
        Expect.same("the longest KEY", x.told(5), MOST);
        Expect.same("the longest VALUE", x.told(6), MOST);
    }

    private static void bytesOfFound() {
        KeyStore x = new KeyStore();
        Expect.same("KEY of none", x.told(7), 0);
        Expect.same("VALUE of none", x.told(8), 0);
        x.begin();
        x.tree();
        Steps.put(x, 0, "abc", "");
        x.seek(0, false);
        Expect.same("KEY", x.told(7), 3);
        Expect.same("an empty VALUE", x.told(8), 0);
        x.fill(true, MOST - 3, 'z');
        x.fill(false, MOST, 0);
        x.put(0);
        x.seek(0, false);
        Expect.same("the longest KEY", x.told(7), MOST);
        Expect.same("the longest VALUE", x.told(8), MOST);
        x.seek(0, true);
        Expect.same("KEY of none again", x.told(7), 0);
        Expect.same("VALUE of none again", x.told(8), 0);
    }

    private static void entries() {
        KeyStore x = new KeyStore();
        x.begin();
        for (int t = 0; t < 64; t++) {
            Expect.same("not there", x.told(10 + t), -1);
            x.tree();
            Expect.same("without ENTRIES", x.told(10 + t), 0);
        }
        x.key(1, 1);
        x.put(63);
        x.put(0);
        x.key(2, 1);
        x.put(63);
        Expect.same("of TREE 63", x.told(73), 2);
        Expect.same("of TREE 62", x.told(72), 0);
        Expect.same("of TREE 0", x.told(10), 1);
        x.put(63);
        Expect.same("put again", x.told(73), 2);
        x.remove(63);
        Expect.same("behind remove", x.told(73), 1);
        x.drop(63);
        Expect.same("behind drop", x.told(73), -1);
        x.rollback();
        Expect.same("behind rollback", x.told(10), -1);
    }

    private static void zeroIfOff() {
        KeyStore x = new KeyStore();
        x.begin();
        for (int t = 0; t < 40; t++) {
            x.tree();
        }
        x.key('k', 1);
        x.value('v', 1);
        x.put(0);
        x.seek(0, false);
        x.mark();
        x.power(2, 1, 0);
        Expect.powerFails("commit", x::commit);
        for (int what = 0; what <= 73; what++) {
            if (what != 9) {
                Expect.same("told " + what, x.told(what), 0);
            }
        }
        Expect.same("it was lasting", x.reopen(), 40);
        Expect.same("TREE 0", x.told(10), 1);
        Expect.same("TREE 40", x.told(50), -1);
    }

    private static void others() {
        int[] wrong = {-1, -2, 74, 75, 100, 256, 65536, Integer.MIN_VALUE, Integer.MAX_VALUE};
        KeyStore x = Steps.stored();
        KeyStore off = Steps.off();
        for (int what : wrong) {
            Expect.badArgument("told " + what, () -> x.told(what));
            Expect.badArgument("told " + what + " when OFF", () -> off.told(what));
        }
        Expect.same("the first", x.told(0), 1);
        Expect.same("the last", x.told(73), -1);
    }

    private static void nineToo() {
        Expect.badArgument("told 9", () -> Steps.stored().told(9));
        Expect.badArgument("told 9 when OFF", () -> Steps.off().told(9));
        Expect.same("told 8", Steps.stored().told(8), 0);
        Expect.same("told 10", Steps.stored().told(10), 2);
    }

    /** Long and short chains come and go, so that pages are free and are used again. */
    private static void pagesOfAll() {
        int[] bytes = {0, 24, 25, 26, 55, 56, 300, MOST};
        KeyStore x = new KeyStore();
        x.begin();
        x.tree();
        x.tree();
        for (int turn = 0; turn < 3; turn++) {
            for (int i = 0; i < bytes.length; i++) {
                x.key(0, 0);
                x.key(i, 1);
                x.value(0, 0);
                x.fill(false, bytes[(i + turn) % bytes.length], i);
                x.put(turn % 2);
                Expect.same("behind put", x.check(), 0);
            }
            x.remove(turn % 2);
            Expect.same("behind remove", x.check(), 0);
            x.mark();
            x.drop(turn % 2);
            Expect.same("behind drop", x.check(), 0);
            x.back(turn + 1);
            Expect.same("behind back", x.check(), 0);
        }
        x.commit();
        Expect.same("behind commit", x.check(), 0);
        x.reopen();
        Expect.same("behind reopen", x.check(), 0);
    }

    /** The TREE grows and shrinks, from either end and from within. */
    private static void inOrder() {
        int[] steps = {1, 79, 37};
        for (int step : steps) {
            KeyStore x = new KeyStore();
            x.begin();
            x.tree();
            for (int i = 0; i < 80; i++) {
                x.key(0, 0);
                x.key(i * step % 80, 1);
                x.put(0);
                if (i % 10 == 4) {
                    Expect.same("it grows", x.check(), 0);
                }
            }
            for (int i = 0; i < 80; i++) {
                x.key(0, 0);
                x.key(i * step % 80, 1);
                Expect.yes("each is where it is looked for", x.remove(0));
                if (i % 10 == 4) {
                    Expect.same("it shrinks", x.check(), 0);
                }
            }
            Expect.same("ENTRIES", x.told(10), 0);
        }
    }

    /** As deep a TREE as so few calls make: each KEY is the one before and a byte more. */
    private static void inOrderDeep() {
        KeyStore x = new KeyStore();
        x.begin();
        x.tree();
        for (int i = 1; i <= 118; i++) {
            x.key(i, 1);
            Expect.yes("a new KEY", !x.put(0));
        }
        Expect.same("it is deep", x.check(), 0);
        x.key(0, 0);
        for (int i = 1; i <= 88; i++) {
            Expect.yes("the next", x.seek(0, false));
            Expect.same("in order", x.take(), i);
            Expect.yes("goes", x.remove(0));
        }
        Expect.same("ENTRIES", x.told(10), 30);
        Expect.same("it is less deep", x.check(), 0);
    }

    private static void always() {
        KeyStore x = new KeyStore();
        Expect.same("of a new object", x.check(), 0);
        x.reopen();
        Expect.same("of a new object behind reopen", x.check(), 0);
        x.begin();
        Expect.same("in a TRANSACTION", x.check(), 0);
        for (int t = 0; t < 64; t++) {
            x.tree();
        }
        Expect.same("with all TREES", x.check(), 0);
        x.key('k', 1);
        x.fill(true, MOST - 1, 1);
        x.fill(false, MOST, 1);
        x.put(0);
        x.put(63);
        Expect.off("too large", () -> x.put(5));
        Expect.same("behind a refused put", x.check(), 0);
        x.rollback();
        Expect.same("behind rollback", x.check(), 0);
        KeyStore off = Steps.off();
        off.reopen();
        Expect.same("behind a loss of power", off.check(), 0);
    }

    private static void checkOff() {
        KeyStore x = Steps.off();
        Expect.off("OFF", x::check);
        x.power(3, 0, 0);
        Expect.powerFails("reopen", x::reopen);
        Expect.off("OFF still", x::check);
        x.reopen();
        Expect.same("on", x.check(), 0);
    }
}
