import java.util.List;

/** Promises 18 and 19, and what the terms say of POWER, sentence by sentence. */
final class PowerSentences {
    private static final String OLD = "a=1 b=2 ";
    private static final String NEW = "b=2 c=3 ";
    private static final int[] BYTES = {0, 1, 2, 7, 8, 31, 32, 33, 34, 63, 64, 255, 256, 299, 300};
    private static final int[] WRITES = {0, 1, 2, 3, 4, 5, 8, 13, 21, 34, 100, 999, 1000};

    /** A call on a store. */
    interface Call {
        void on(KeyStore x);
    }

    private PowerSentences() {
    }

    static List<Sentence> all() {
        return List.of(
            new Sentence(0, "POWER. TREES lie in pages of bytes in a file, what is to be undone in another (the journal);"
                + " if power fails just what was written to the files lasts", PowerSentences::justWhatWasWritten),
            new Sentence(0, "the store is OFF then till reopen", PowerSentences::offTillReopen),
            new Sentence(0, "TREES are what the latest TRANSACTION that is lasting left", PowerSentences::latestLasting),
            new Sentence(0, "THE KEY, THE VALUE are empty, FOUND is none", PowerSentences::rowsAreEmpty),
            new Sentence(0, "To empty the journal, which makes a TRANSACTION lasting, is the last thing that commit does,"
                + " at once; other writes may be cut", PowerSentences::emptyingIsLast),
            new Sentence(0, "other writes may be cut", PowerSentences::manyWritesAreCut),
            new Sentence(18, "Power fails once from now on", PowerSentences::once),
            new Sentence(18, "(what was said before is forgotten", PowerSentences::saidBefore),
            new Sentence(18, "this stays till a commit or reopen in which it fails", PowerSentences::staysTillItFails),
            new Sentence(18, "or any reopen)", PowerSentences::anyReopen),
            new Sentence(18, "when 0: in the next commit, as write k (0 the first) to the journal is cut after b bytes",
                () -> cut(0)),
            new Sentence(18, "(after all, if it has fewer)", PowerSentences::afterAll),
            new Sentence(18, "1: likewise of the writes to the file", () -> cut(1)),
            new Sentence(18, "in both, if there are fewer of them", PowerSentences::fewerWrites),
            new Sentence(18, "(or nothing changed), right before the journal is emptied", PowerSentences::nothingChanged),
            new Sentence(18, "2: in the next commit, right before the journal is emptied if k is 0",
                PowerSentences::rightBefore),
            new Sentence(18, "else right behind it (it is lasting then, though commit throws and the store is OFF)",
                PowerSentences::rightBehind),
            new Sentence(18, "3: in the next reopen, as write k to the file, of what is undone, is cut after b bytes",
                PowerSentences::cutInReopen),
            new Sentence(18, "or, if there are fewer, before it is done", PowerSentences::beforeItIsDone),
            new Sentence(18, "4: not at all", PowerSentences::notAtAll),
            new Sentence(18, "(Only writes that commit, or reopen, does itself are counted.)", PowerSentences::onlyItsOwn),
            new Sentence(18, "IllegalArgumentException if when is not 0 to 4", PowerSentences::whenOutside),
            new Sentence(18, "k not 0 to 1000", PowerSentences::writeOutside),
            new Sentence(18, "b not 0 to 300", PowerSentences::bytesOutside),
            new Sentence(19, "Power goes off, if it is on, and on", PowerSentences::offAndOn),
            new Sentence(19, "what is lasting is there", PowerSentences::whatIsLasting),
            new Sentence(19, "what was said by power is forgotten", PowerSentences::anyReopen),
            new Sentence(19, "how many TREES", PowerSentences::howManyTrees),
            new Sentence(19, "ArithmeticException if power fails in that: it is OFF then",
                PowerSentences::failsInReopen));
    }

    /** From OLD to NEW, with a TREE more that has an ENTRY of many pages. */
    private static void change(KeyStore x) {
        x.begin();
        Steps.put(x, 0, "c", "3");
        Steps.remove(x, 0, "a");
        x.tree();
        x.key('l', 1);
        x.fill(false, 900, 7);
        x.put(1);
    }

    private static boolean isOff(KeyStore x) {
        int told = 0;
        for (int what = 0; what <= 73; what++) {
            told |= what == 9 ? 0 : x.told(what);
        }
        return told == 0;
    }

    private static void isLasting(KeyStore x, String what, boolean isNew) {
        Expect.same(what + ": reopen", x.reopen(), isNew ? 2 : 1);
        Expect.same(what + ": check", x.check(), 0);
        Expect.same(what + ": SIZE", x.told(4), isNew ? 36 + 919 : 36);
        Expect.yes(what + ": ENTRIES", Steps.all(x, 0).equals(isNew ? NEW : OLD));
        Expect.same(what + ": TREE 1", x.told(11), isNew ? 1 : -1);
    }

    /** A store in whose commit power failed that way. */
    private static KeyStore failed(int when, int k, int b) {
        KeyStore x = Steps.stored();
        x.power(when, k, b);
        change(x);
        Expect.powerFails("power " + when + " " + k + " " + b, x::commit);
        return x;
    }

    private static void justWhatWasWritten() {
        KeyStore x = Steps.stored();
        change(x);
        x.mark();
        isLasting(x, "nothing was written", false);
        change(x);
        x.commit();
        isLasting(x, "all was written", true);
        isLasting(failed(0, 0, 0), "none to the journal", false);
        isLasting(failed(1, 0, 0), "none to the file", false);
        isLasting(failed(2, 0, 0), "all but the end", false);
        isLasting(failed(2, 1, 0), "the end, too", true);
    }

    private static void offTillReopen() {
        KeyStore x = failed(2, 0, 0);
        Expect.yes("OFF", isOff(x));
        List<Call> calls = List.of(y -> y.key(1, 1), y -> y.value(1, 1), y -> y.fill(true, 1, 1), KeyStore::tree,
            y -> y.drop(0), y -> y.put(0), y -> y.remove(0), y -> y.seek(0, false), KeyStore::begin, KeyStore::commit,
            KeyStore::rollback, KeyStore::mark, y -> y.back(1), y -> y.keep(1), KeyStore::check);
        for (int i = 0; i < calls.size(); i++) {
            Call call = calls.get(i);
            Expect.off("OFF, call " + i, () -> call.on(x));
        }
        x.power(4, 0, 0);
        Expect.yes("still OFF", isOff(x));
        Expect.same("reopen", x.reopen(), 1);
        Expect.same("on", x.told(0), 1);
        x.begin();
        Expect.same("it can be used", x.tree(), 1);
    }

    private static void latestLasting() {
        KeyStore x = Steps.stored();
        String[] due = {"a=1 b=2 ", "a=1 b=2 c=3 ", "a=1 b=2 c=3 d=4 "};
        for (int i = 0; i < due.length; i++) {
            x.power(1, i, i);
            x.begin();
            Steps.put(x, 0, "lost", "" + i);
            Expect.powerFails("commit", x::commit);
            x.reopen();
            Expect.yes("as the latest left it, " + i, Steps.all(x, 0).equals(due[i]));
            x.begin();
            Steps.put(x, 0, "cde".substring(i, i + 1), "" + (i + 3));
            x.commit();
        }
        KeyStore none = new KeyStore();
        none.begin();
        none.tree();
        none.power(2, 0, 0);
        Expect.powerFails("the first commit", none::commit);
        Expect.same("none is lasting", none.reopen(), 0);
        Expect.same("check", none.check(), 0);
    }

    private static void rowsAreEmpty() {
        for (int way = 0; way < 3; way++) {
            KeyStore x = Steps.stored();
            Steps.get(x, 0, "b");
            Steps.value(x, "vv");
            x.begin();
            x.power(way == 0 ? 2 : way == 1 ? 3 : 4, 1, 0);
            if (way == 0) {
                Expect.powerFails("commit", x::commit);
            } else if (way == 1) {
                Expect.powerFails("reopen", x::reopen);
            }
            if (way < 2) {
                Expect.same("told when OFF", x.told(5) + x.told(6) + x.told(7) + x.told(8), 0);
                Expect.noElement("take when OFF", x::take);
            }
            x.reopen();
            Expect.same("THE KEY", x.told(5), 0);
            Expect.same("THE VALUE", x.told(6), 0);
            Expect.same("FOUND", x.told(7) + x.told(8), 0);
            Expect.noElement("take", x::take);
            x.begin();
            Expect.badArgument("put without THE KEY", () -> x.put(0));
        }
    }

    private static void emptyingIsLast() {
        for (int k : WRITES) {
            isLasting(failed(0, k, 300), "journal " + k, false);
            isLasting(failed(1, k, 300), "file " + k, false);
        }
        isLasting(failed(2, 0, 300), "all is written, the journal is not empty", false);
        isLasting(failed(2, 1, 300), "the journal is empty", true);
        KeyStore x = Steps.stored();
        change(x);
        x.commit();
        isLasting(x, "power held", true);
    }

    /** The largest ENTRIES there can be, changed as the writes of them are cut, and as they are undone. */
    private static void manyWritesAreCut() {
        int[] writes = {0, 1, 200, 254, 255, 256, 257, 258, 500, 511, 512, 513, 700, 999, 1000};
        for (int k : writes) {
            KeyStore x = large(1);
            x.power(k % 2, k, k % 30);
            x.begin();
            x.drop(1);
            putLarge(x, 0, 2);
            Expect.powerFails("power " + k % 2 + " " + k, x::commit);
            x.power(3, 1000 - k, 7);
            Expect.powerFails("power 3 " + (1000 - k), x::reopen);
            Expect.same("TREES, " + k, x.reopen(), 2);
            Expect.same("check, " + k, x.check(), 0);
            Expect.same("SIZE, " + k, x.told(4), 2 * 16912);
            isLarge(x, 0, 1);
            isLarge(x, 1, 1);
            x.begin();
            putLarge(x, 0, 3);
            x.commit();
            x.reopen();
            isLarge(x, 0, 3);
            isLarge(x, 1, 1);
        }
    }

    /** TREES 0 and 1 with an ENTRY each of the longest KEY and VALUE, which has bytes b. */
    private static KeyStore large(int b) {
        KeyStore x = new KeyStore();
        x.begin();
        x.tree();
        x.tree();
        putLarge(x, 0, b);
        putLarge(x, 1, b);
        x.commit();
        return x;
    }

    private static void putLarge(KeyStore x, int t, int b) {
        x.key(0, 0);
        x.fill(true, 8448, 'k');
        x.value(0, 0);
        x.fill(false, 8448, b);
        x.put(t);
    }

    private static void isLarge(KeyStore x, int t, int b) {
        x.key(0, 0);
        Expect.yes("an ENTRY", x.seek(t, false));
        Expect.same("its KEY", x.told(7), 8448);
        for (int from = 0; from < 8448; from += 768) {
            Expect.same("KEY from " + from, x.found(0, from), 0x6B6B6B6B6B6B6B6BL);
            Expect.same("VALUE from " + from, x.found(1, from), b * 0x0101010101010101L);
        }
        Expect.same("the last of its VALUE", x.found(1, 8447), b);
    }

    private static void once() {
        for (int when = 0; when <= 2; when++) {
            KeyStore x = failed(when, 0, 0);
            x.reopen();
            change(x);
            x.commit();
            isLasting(x, "power " + when + " fails once", true);
        }
        KeyStore x = Steps.stored();
        x.power(3, 0, 0);
        Expect.powerFails("reopen", x::reopen);
        isLasting(x, "power 3 fails once", false);
    }

    private static void saidBefore() {
        for (int before = 0; before <= 3; before++) {
            KeyStore x = Steps.stored();
            x.power(before, 0, 0);
            x.power(4, 0, 0);
            change(x);
            x.commit();
            isLasting(x, "4 behind " + before, true);
        }
        KeyStore behind = Steps.stored();
        behind.power(2, 0, 0);
        behind.power(2, 1, 0);
        change(behind);
        Expect.powerFails("the last word", behind::commit);
        isLasting(behind, "2 with 1 behind 2 with 0", true);
        KeyStore reopens = Steps.stored();
        reopens.power(3, 0, 0);
        reopens.power(1, 0, 0);
        Expect.same("reopen is let be", reopens.reopen(), 1);
        KeyStore commits = Steps.stored();
        commits.power(0, 0, 0);
        commits.power(3, 0, 0);
        change(commits);
        commits.commit();
        Expect.powerFails("reopen is not", commits::reopen);
        isLasting(commits, "3 behind 0", true);
    }

    private static void staysTillItFails() {
        for (int when = 0; when <= 2; when++) {
            KeyStore x = Steps.stored();
            x.power(when, 0, 0);
            Expect.off("a commit of none", x::commit);
            x.begin();
            x.mark();
            x.tree();
            x.back(1);
            x.rollback();
            Expect.badArgument("a refused one", () -> x.power(5, 0, 0));
            x.check();
            change(x);
            Expect.powerFails("power " + when + " stays", x::commit);
            Expect.off("it failed there", x::commit);
            isLasting(x, "power " + when + " then", false);
        }
        KeyStore x = Steps.stored();
        x.power(3, 0, 0);
        for (int i = 0; i < 3; i++) {
            x.begin();
            x.commit();
        }
        change(x);
        x.commit();
        Expect.powerFails("power 3 stays over commits", x::reopen);
        isLasting(x, "power 3 then", true);
    }

    private static void anyReopen() {
        for (int when = 0; when <= 4; when++) {
            KeyStore x = Steps.stored();
            x.power(when, 0, 0);
            if (when == 3) {
                Expect.powerFails("reopen", x::reopen);
            }
            x.reopen();
            change(x);
            x.commit();
            isLasting(x, "power " + when + " is forgotten", true);
            KeyStore off = Steps.off();
            off.power(when, 0, 0);
            if (when == 3) {
                Expect.powerFails("reopen of OFF", off::reopen);
            }
            off.reopen();
            change(off);
            off.commit();
            isLasting(off, "power " + when + " when OFF is forgotten", true);
        }
        KeyStore x = failed(2, 0, 0);
        x.power(0, 0, 0);
        x.power(3, 0, 0);
        Expect.powerFails("reopen", x::reopen);
        isLasting(x, "all is forgotten", false);
    }

    private static void cut(int when) {
        for (int k : WRITES) {
            for (int b : BYTES) {
                KeyStore x = failed(when, k, b);
                Expect.yes("OFF", isOff(x));
                isLasting(x, "power " + when + " " + k + " " + b, false);
                change(x);
                x.commit();
                isLasting(x, "power " + when + " " + k + " " + b + " then", true);
            }
        }
    }

    private static void afterAll() {
        for (int when = 0; when <= 1; when++) {
            for (int k = 0; k < 60; k++) {
                isLasting(failed(when, k, 300), "power " + when + " " + k + " 300", false);
            }
        }
    }

    private static void fewerWrites() {
        for (int when = 0; when <= 1; when++) {
            int[] far = {500, 999, 1000};
            for (int k : far) {
                KeyStore x = failed(when, k, 300);
                Expect.yes("OFF", isOff(x));
                isLasting(x, "power " + when + " " + k, false);
            }
        }
    }

    private static void nothingChanged() {
        for (int when = 0; when <= 1; when++) {
            KeyStore x = Steps.stored();
            x.power(when, 0, 0);
            x.begin();
            Expect.powerFails("power " + when, x::commit);
            Expect.yes("OFF", isOff(x));
            isLasting(x, "nothing changed", false);
            KeyStore back = Steps.stored();
            back.power(when, 7, 7);
            back.begin();
            back.mark();
            back.drop(0);
            back.back(1);
            Expect.powerFails("changed back, power " + when, back::commit);
            isLasting(back, "changed back", false);
            KeyStore none = new KeyStore();
            none.power(when, 0, 0);
            none.begin();
            Expect.powerFails("of a new object, power " + when, none::commit);
            Expect.same("no TREES", none.reopen(), 0);
        }
    }

    private static void rightBefore() {
        int[] bytes = {0, 1, 300};
        for (int b : bytes) {
            KeyStore x = failed(2, 0, b);
            Expect.yes("OFF", isOff(x));
            isLasting(x, "right before", false);
        }
        KeyStore x = Steps.stored();
        x.power(2, 0, 0);
        x.begin();
        Expect.powerFails("nothing changed", x::commit);
        isLasting(x, "nothing changed", false);
    }

    private static void rightBehind() {
        int[] others = {1, 2, 500, 1000};
        for (int k : others) {
            KeyStore x = failed(2, k, 0);
            Expect.yes("OFF", isOff(x));
            Expect.off("it is not open", x::rollback);
            isLasting(x, "right behind, k " + k, true);
        }
        KeyStore nothing = Steps.stored();
        nothing.power(2, 1, 0);
        nothing.begin();
        Expect.powerFails("nothing changed", nothing::commit);
        isLasting(nothing, "nothing changed", false);
        KeyStore x = failed(2, 1, 0);
        x.power(3, 0, 0);
        Expect.powerFails("reopen", x::reopen);
        isLasting(x, "nothing is undone", true);
        x.power(2, 1, 0);
        x.begin();
        x.drop(1);
        Steps.put(x, 0, "a", "1");
        Expect.powerFails("commit", x::commit);
        Expect.same("a drop lasts", x.reopen(), 1);
        Expect.yes("a put lasts", Steps.all(x, 0).equals("a=1 b=2 c=3 "));
    }

    private static void cutInReopen() {
        for (int k : WRITES) {
            for (int b : BYTES) {
                KeyStore x = failed(1, 30, 9);
                x.power(3, k, b);
                Expect.powerFails("power 3 " + k + " " + b, x::reopen);
                Expect.yes("OFF", isOff(x));
                x.power(3, b % 11, k % 301);
                Expect.powerFails("once more", x::reopen);
                Expect.yes("OFF again", isOff(x));
                isLasting(x, "power 3 " + k + " " + b, false);
            }
        }
    }

    private static void beforeItIsDone() {
        KeyStore x = Steps.stored();
        x.power(3, 0, 0);
        Expect.powerFails("nothing is to be undone", x::reopen);
        Expect.yes("OFF", isOff(x));
        x.power(3, 1000, 300);
        Expect.powerFails("when OFF", x::reopen);
        Expect.yes("still OFF", isOff(x));
        isLasting(x, "then", false);
        KeyStore undone = failed(2, 0, 0);
        undone.power(3, 1000, 300);
        Expect.powerFails("fewer are undone", undone::reopen);
        Expect.yes("OFF when all is undone", isOff(undone));
        isLasting(undone, "undone", false);
        KeyStore lasting = failed(2, 1, 0);
        lasting.power(3, 1000, 0);
        Expect.powerFails("it is lasting", lasting::reopen);
        isLasting(lasting, "lasting", true);
    }

    private static void notAtAll() {
        KeyStore x = Steps.stored();
        x.power(4, 0, 0);
        change(x);
        x.commit();
        Expect.same("on", x.told(0), 1);
        x.power(4, 1000, 300);
        isLasting(x, "reopen", true);
        KeyStore off = Steps.off();
        off.power(3, 0, 0);
        off.power(4, 0, 0);
        isLasting(off, "reopen of OFF", false);
    }

    private static void onlyItsOwn() {
        for (int when = 0; when <= 3; when++) {
            KeyStore x = Steps.stored();
            x.power(when, 0, 0);
            x.begin();
            x.value(0, 0);
            x.fill(false, 8448, 1);
            for (int k = 0; k < 4; k++) {
                x.key(k, 1);
                x.mark();
                x.put(0);
            }
            x.back(2);
            x.drop(0);
            x.keep(1);
            x.seek(x.tree(), false);
            x.rollback();
            Expect.same("on", x.told(0), 1);
            Expect.same("check", x.check(), 0);
            change(x);
            if (when == 3) {
                x.commit();
                Expect.powerFails("in reopen", x::reopen);
            } else {
                Expect.powerFails("in commit " + when, x::commit);
            }
            isLasting(x, "power " + when, when == 3);
        }
    }

    private static void refused(int when, int k, int b) {
        KeyStore x = Steps.stored();
        x.power(2, 1, 0);
        Expect.badArgument("power " + when + " " + k + " " + b, () -> x.power(when, k, b));
        change(x);
        Expect.powerFails("what was said before stays", x::commit);
        Expect.badArgument("OFF: power " + when + " " + k + " " + b, () -> x.power(when, k, b));
        isLasting(x, "what was said before", true);
    }

    private static void whenOutside() {
        int[] outside = {-1, 5, 6, 256, 260, 65536, Integer.MIN_VALUE, Integer.MAX_VALUE};
        for (int when : outside) {
            refused(when, 0, 0);
        }
        for (int when = 0; when <= 4; when++) {
            new KeyStore().power(when, 0, 0);
            Steps.off().power(when, 0, 0);
        }
    }

    private static void writeOutside() {
        int[] outside = {-1, 1001, 1002, 65536, Integer.MIN_VALUE, Integer.MAX_VALUE};
        for (int when = 0; when <= 4; when++) {
            for (int k : outside) {
                refused(when, k, 0);
            }
            new KeyStore().power(when, 0, 0);
            new KeyStore().power(when, 1000, 0);
        }
    }

    private static void bytesOutside() {
        int[] outside = {-1, 301, 302, 65536, Integer.MIN_VALUE, Integer.MAX_VALUE};
        for (int when = 0; when <= 4; when++) {
            for (int b : outside) {
                refused(when, 0, b);
            }
            new KeyStore().power(when, 0, 0);
            new KeyStore().power(when, 1000, 300);
        }
    }

    private static void offAndOn() {
        KeyStore x = Steps.stored();
        change(x);
        x.mark();
        x.seek(0, false);
        x.reopen();
        Expect.same("on", x.told(0), 1);
        Expect.same("none is open", x.told(1), 0);
        Expect.same("MARKS", x.told(2), 0);
        Expect.same("rows", x.told(5) + x.told(6) + x.told(7) + x.told(8), 0);
        Expect.off("rollback", x::rollback);
        KeyStore off = Steps.off();
        off.reopen();
        Expect.same("on again", off.told(0), 1);
        Expect.same("none is open again", off.told(1), 0);
        off.begin();
        Expect.same("a new object", new KeyStore().reopen(), 0);
    }

    private static void whatIsLasting() {
        KeyStore x = Steps.stored();
        isLasting(x, "what was committed", false);
        isLasting(x, "twice", false);
        change(x);
        isLasting(x, "not what was done since", false);
        change(x);
        x.commit();
        x.begin();
        x.drop(0);
        x.rollback();
        isLasting(x, "not what was rolled back", true);
        x.begin();
        x.drop(1);
        x.power(0, 0, 0);
        Expect.powerFails("commit", x::commit);
        isLasting(x, "not what was cut", true);
    }

    private static void howManyTrees() {
        KeyStore x = new KeyStore();
        Expect.same("none", x.reopen(), 0);
        x.begin();
        Expect.same("not lasting", x.tree() + x.reopen(), 0);
        x.begin();
        for (int t = 0; t < 64; t++) {
            x.tree();
        }
        x.commit();
        Expect.same("all", x.reopen(), 64);
        x.begin();
        x.drop(0);
        x.drop(63);
        x.commit();
        Expect.same("without the ends", x.reopen(), 62);
        Expect.same("told", x.told(3), 62);
        Expect.same("of OFF", Steps.off().reopen(), 1);
    }

    private static void failsInReopen() {
        KeyStore x = Steps.stored();
        change(x);
        x.power(3, 0, 0);
        Expect.powerFails("reopen", x::reopen);
        Expect.yes("OFF", isOff(x));
        Expect.off("begin", x::begin);
        Expect.off("check", x::check);
        Expect.noElement("take", x::take);
        isLasting(x, "then", false);
        x.power(2, 0, 0);
        Expect.same("no other power fails in it", x.reopen(), 1);
    }
}
