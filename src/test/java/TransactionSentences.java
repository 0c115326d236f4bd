import java.util.List;

/** Promises 12 to 17, and what the terms say of TRANSACTIONS, MARKS and what calls leave alone. */
final class TransactionSentences {
    private static final int[] NO_MARKS = {0, -1, 6, 7, 256, 257, 65537, Integer.MIN_VALUE, Integer.MIN_VALUE + 1,
        Integer.MAX_VALUE};

    /** A call on a store. */
    interface Call {
        void on(KeyStore x);
    }

    /** A call that is told a MARK. */
    interface MarkCall {
        void of(KeyStore x, int m);
    }

    private TransactionSentences() {
    }

    static List<Sentence> all() {
        return List.of(
            new Sentence(0, "These are not part of the TREES; nothing but the calls that say so changes them",
                TransactionSentences::rowsStay),
            new Sentence(0, "These are not part of the TREES; nothing but the calls that say so changes them",
                TransactionSentences::otherRowsStay),
            new Sentence(0, "These are not part of the TREES; nothing but the calls that say so changes them",
                TransactionSentences::refusedCallsChangeNothing),
            new Sentence(0, "TREES change in a TRANSACTION that is open: begin opens it",
                TransactionSentences::changeOnlyInside),
            new Sentence(0, "commit makes what was done lasting, rollback makes all as it was at begin",
                TransactionSentences::lastingOrAsItWas),
            new Sentence(0, "MARKS 1, 2, .. (at most 5) are made within it, back goes to what was at one, keep forgets it",
                TransactionSentences::fiveMarks),
            new Sentence(0, "all are forgotten at its end", TransactionSentences::forgottenAtItsEnd),
            new Sentence(12, "A TRANSACTION is open, without MARKS", TransactionSentences::openWithoutMarks),
            new Sentence(12, "IllegalStateException if it is OFF, or one is open", TransactionSentences::beginRefused),
            new Sentence(13, "What was done in the TRANSACTION is lasting", TransactionSentences::isLasting),
            new Sentence(13, "none is open then", () -> noneIsOpen(KeyStore::commit)),
            new Sentence(13, "IllegalStateException if it is OFF, or none is open",
                () -> refusedOffOrNotOpen(KeyStore::commit)),
            new Sentence(13, "ArithmeticException if power failed", TransactionSentences::powerFailed),
            new Sentence(14, "All is as it was at begin", TransactionSentences::asItWas),
            new Sentence(14, "none is open then", () -> noneIsOpen(KeyStore::rollback)),
            new Sentence(14, "IllegalStateException if it is OFF, or none is open",
                () -> refusedOffOrNotOpen(KeyStore::rollback)),
            new Sentence(15, "A new MARK at what is now", TransactionSentences::atWhatIsNow),
            new Sentence(15, "its number (one more than how many there are)", TransactionSentences::itsNumber),
            new Sentence(15, "IllegalStateException as by rollback", () -> refusedOffOrNotOpen(KeyStore::mark)),
            new Sentence(15, "or if there are 5", TransactionSentences::ifThereAreFive),
            new Sentence(16, "TREES are what they were when MARK m was made", TransactionSentences::asAtTheMark),
            new Sentence(16, "it stays, those behind it are forgotten", TransactionSentences::backForgets),
            new Sentence(16, "IllegalStateException as by rollback", () -> refusedBeforeMark(KeyStore::back)),
            new Sentence(16, "then IndexOutOfBoundsException if there is no MARK m", () -> noMark(KeyStore::back)),
            new Sentence(17, "MARK m and those behind it are forgotten", TransactionSentences::keepForgets),
            new Sentence(17, "what was done since stays", TransactionSentences::whatWasDoneStays),
            new Sentence(17, "Thrown as by back", () -> refusedBeforeMark(KeyStore::keep)),
            new Sentence(17, "Thrown as by back", () -> noMark(KeyStore::keep)));
    }

    /** A TRANSACTION is open, with TREES 0 and 1, a MARK, THE KEY, THE VALUE and FOUND. */
    private static KeyStore busy() {
        KeyStore x = Steps.stored();
        x.begin();
        x.tree();
        x.mark();
        Steps.put(x, 1, "mm", "v");
        Steps.get(x, 0, "b");
        Steps.key(x, "kkk");
        Steps.value(x, "vvvvv");
        return x;
    }

    private static void rowsStay() {
        String due = Picture.rows(busy());
        List<Call> calls = List.of(KeyStore::tree, x -> x.drop(0), x -> x.put(0), x -> x.remove(0), KeyStore::commit,
            KeyStore::rollback, KeyStore::mark, x -> x.back(1), x -> x.keep(1), x -> x.power(2, 0, 0),
            x -> x.told(5), KeyStore::check, x -> x.found(0, 0), x -> {
                x.commit();
                x.begin();
            });
        for (int i = 0; i < calls.size(); i++) {
            KeyStore x = busy();
            calls.get(i).on(x);
            Expect.yes("the rows behind call " + i, Picture.rows(x).equals(due));
        }
    }

    private static void otherRowsStay() {
        KeyStore x = busy();
        x.key('x', 1);
        x.fill(true, 2, 'x');
        x.key(0, 0);
        Expect.same("THE VALUE behind key and fill", x.told(6), 5);
        Expect.yes("FOUND behind key and fill", Steps.foundText(x, 0).equals("b"));
        Steps.key(x, "kkk");
        x.value('x', 1);
        x.fill(false, 2, 'x');
        x.value(0, 0);
        Expect.same("THE KEY behind value and fill", x.told(5), 3);
        Expect.yes("FOUND behind value and fill", Steps.foundText(x, 1).equals("2"));
        Steps.value(x, "vvvvv");
        x.seek(1, false);
        Expect.same("THE KEY behind seek", x.told(5), 3);
        Expect.same("THE VALUE behind seek", x.told(6), 5);
        x.take();
        Expect.same("THE VALUE behind take", x.told(6), 5);
        Expect.yes("FOUND behind take", Steps.foundText(x, 0).equals("mm"));
        x.put(0);
        Expect.yes("THE VALUE is what it was", "vvvvv".equals(Steps.get(x, 0, "mm")));
    }

    /** A call that throws leaves all as it was. */
    private static void refusedCallsChangeNothing() {
        String due = Picture.of(busy());
        List<Call> calls = List.of(x -> x.key(1, 9), x -> x.value(1, -1), x -> x.fill(true, 8448, 1),
            x -> x.fill(false, 8444, 1), x -> x.fill(true, -1, 1), x -> x.drop(2), x -> x.put(2), x -> x.remove(-1),
            x -> x.seek(2, false), x -> x.found(2, 0), KeyStore::begin, x -> x.back(2), x -> x.back(0), x -> x.keep(2),
            x -> x.keep(0), x -> x.power(5, 0, 0), x -> x.told(9), x -> x.told(74));
        for (int i = 0; i < calls.size(); i++) {
            KeyStore x = busy();
            boolean threw = false;
            try {
                calls.get(i).on(x);
            } catch (RuntimeException e) {
                threw = true;
            }
            Expect.yes("call " + i + " is refused", threw);
            Expect.yes("all behind call " + i, Picture.of(x).equals(due));
        }
    }

    private static void changeOnlyInside() {
        String due = Picture.of(Steps.stored());
        List<Call> calls = List.of(KeyStore::tree, x -> x.drop(0), x -> x.put(0), x -> x.remove(0));
        for (int i = 0; i < calls.size(); i++) {
            Call call = calls.get(i);
            KeyStore x = Steps.stored();
            Expect.off("not open, call " + i, () -> call.on(x));
            Expect.yes("as it was", Picture.of(x).equals(due));
            KeyStore open = Steps.stored();
            open.begin();
            call.on(open);
            open.commit();
            Expect.off("not open any more, call " + i, () -> call.on(open));
        }
        KeyStore looks = Steps.stored();
        looks.key(0, 0);
        Expect.yes("to look needs none", looks.seek(0, false));
    }

    private static void change(KeyStore x) {
        Steps.put(x, 0, "a", "changed");
        Steps.remove(x, 0, "b");
        Steps.put(x, 0, "c", "3");
        x.tree();
    }

    private static void lastingOrAsItWas() {
        KeyStore x = Steps.stored();
        x.begin();
        change(x);
        x.rollback();
        Expect.yes("as it was", Steps.all(x, 0).equals("a=1 b=2 "));
        Expect.same("TREES", x.told(3), 1);
        x.begin();
        change(x);
        x.commit();
        Expect.same("lasting TREES", x.reopen(), 2);
        Expect.yes("lasting", Steps.all(x, 0).equals("a=changed c=3 "));
    }

    private static void fiveMarks() {
        KeyStore x = Steps.stored();
        Expect.off("not outside", x::mark);
        x.begin();
        for (int m = 1; m <= 5; m++) {
            Expect.same("MARK", x.mark(), m);
            x.tree();
        }
        Expect.off("a sixth", x::mark);
        x.back(5);
        Expect.same("at the fifth", x.told(3), 5);
        x.keep(5);
        Expect.same("four", x.told(2), 4);
        x.back(1);
        Expect.same("at the first", x.told(3), 1);
        x.keep(1);
        Expect.same("none", x.told(2), 0);
    }

    private static void forgottenAtItsEnd() {
        List<Call> ends = List.of(KeyStore::commit, KeyStore::rollback, KeyStore::reopen);
        for (Call end : ends) {
            KeyStore x = Steps.stored();
            x.begin();
            for (int m = 1; m <= 5; m++) {
                x.mark();
            }
            end.on(x);
            Expect.same("MARKS", x.told(2), 0);
            x.begin();
            Expect.noIndex("back", () -> x.back(1));
            Expect.noIndex("keep", () -> x.keep(1));
            Expect.same("the first again", x.mark(), 1);
        }
    }

    private static void openWithoutMarks() {
        KeyStore x = new KeyStore();
        x.begin();
        Expect.same("open", x.told(1), 1);
        Expect.same("MARKS", x.told(2), 0);
        x.mark();
        x.commit();
        x.begin();
        Expect.same("open again", x.told(1), 1);
        Expect.same("MARKS again", x.told(2), 0);
        Expect.noIndex("no MARK 1", () -> x.back(1));
    }

    private static void beginRefused() {
        KeyStore off = Steps.off();
        Expect.off("OFF", off::begin);
        off.reopen();
        Expect.same("none is open behind reopen", off.told(1), 0);
        off.begin();
        KeyStore x = busy();
        Expect.off("one is open", x::begin);
        Expect.same("its MARK stays", x.told(2), 1);
        Expect.same("its TREE stays", x.told(3), 2);
        x.rollback();
        x.begin();
        Expect.off("one is open again", x::begin);
    }

    private static void isLasting() {
        KeyStore x = Steps.stored();
        x.begin();
        change(x);
        x.mark();
        Steps.put(x, 1, "in", "1");
        x.commit();
        Expect.yes("at once", Steps.all(x, 0).equals("a=changed c=3 "));
        Expect.same("behind reopen", x.reopen(), 2);
        Expect.yes("TREE 0", Steps.all(x, 0).equals("a=changed c=3 "));
        Expect.yes("TREE 1", Steps.all(x, 1).equals("in=1 "));
        x.begin();
        x.drop(0);
        x.commit();
        Expect.same("drop lasts", x.reopen(), 1);
        x.begin();
        x.commit();
        Expect.same("nothing was done", x.reopen(), 1);
        x.begin();
        Steps.put(x, 1, "out", "2");
        x.rollback();
        x.begin();
        x.commit();
        x.reopen();
        Expect.yes("just what was done in it", Steps.all(x, 1).equals("in=1 "));
        Expect.same("check", x.check(), 0);
    }

    private static void noneIsOpen(Call end) {
        KeyStore x = busy();
        end.on(x);
        Expect.same("open", x.told(1), 0);
        Expect.same("on", x.told(0), 1);
        Expect.off("again", () -> end.on(x));
        Expect.off("tree", x::tree);
        Expect.off("mark", x::mark);
        x.begin();
        end.on(x);
        Expect.same("open, nothing done", x.told(1), 0);
    }

    private static void refusedOffOrNotOpen(Call call) {
        KeyStore off = Steps.off();
        Expect.off("OFF", () -> call.on(off));
        Expect.same("still OFF", off.told(0), 0);
        off.reopen();
        Expect.off("none is open behind reopen", () -> call.on(off));
        Expect.off("of a new object", () -> call.on(new KeyStore()));
        KeyStore x = Steps.stored();
        Expect.off("none is open", () -> call.on(x));
        Expect.yes("as it was", Picture.of(x).equals(Picture.of(Steps.stored())));
        x.reopen();
        x.begin();
        call.on(x);
    }

    private static void powerFailed() {
        for (int when = 0; when <= 2; when++) {
            for (int k = 0; k <= 1; k++) {
                KeyStore x = busy();
                x.power(when, k, 0);
                Expect.powerFails("power " + when + " " + k, x::commit);
                Expect.same("OFF", x.told(0), 0);
                Expect.off("not ArithmeticException once more", x::commit);
            }
        }
        KeyStore x = busy();
        x.power(3, 0, 0);
        x.commit();
        x.begin();
        x.power(4, 0, 0);
        x.commit();
        Expect.same("power held", x.told(0), 1);
    }

    private static void asItWas() {
        KeyStore x = Steps.stored();
        x.begin();
        change(x);
        x.mark();
        x.drop(0);
        x.tree();
        x.fill(false, 3000, 1);
        x.put(0);
        x.keep(1);
        x.rollback();
        Expect.same("TREES", x.told(3), 1);
        Expect.same("ENTRIES", x.told(10), 2);
        Expect.same("no TREE 1", x.told(11), -1);
        Expect.same("SIZE", x.told(4), 36);
        Expect.yes("all", Steps.all(x, 0).equals("a=1 b=2 "));
        Expect.same("check", x.check(), 0);
        Expect.same("behind reopen", x.reopen(), 1);
        Expect.yes("all of it", Steps.all(x, 0).equals("a=1 b=2 "));
        x.begin();
        x.drop(0);
        x.commit();
        x.begin();
        x.tree();
        x.rollback();
        Expect.same("as the latest commit left it", x.told(3), 0);
        x.begin();
        x.rollback();
        Expect.same("nothing done", x.told(3), 0);
    }

    private static void atWhatIsNow() {
        KeyStore x = Steps.stored();
        x.begin();
        Steps.put(x, 0, "a", "new");
        Expect.same("mark", x.mark(), 1);
        Expect.yes("nothing changes", Steps.all(x, 0).equals("a=new b=2 "));
        x.drop(0);
        x.back(1);
        Expect.yes("not at begin", Steps.all(x, 0).equals("a=new b=2 "));
        Steps.put(x, 0, "c", "3");
        x.keep(1);
        Expect.same("mark again", x.mark(), 1);
        x.drop(0);
        x.back(1);
        Expect.yes("at what is now", Steps.all(x, 0).equals("a=new b=2 c=3 "));
    }

    private static void itsNumber() {
        KeyStore x = new KeyStore();
        x.begin();
        for (int m = 1; m <= 5; m++) {
            Expect.same("mark", x.mark(), m);
            Expect.same("MARKS", x.told(2), m);
        }
        x.back(3);
        Expect.same("behind back to 3", x.mark(), 4);
        x.keep(2);
        Expect.same("behind keep of 2", x.mark(), 2);
        x.keep(1);
        Expect.same("behind keep of 1", x.mark(), 1);
        x.commit();
        x.begin();
        Expect.same("in another TRANSACTION", x.mark(), 1);
    }

    private static void ifThereAreFive() {
        KeyStore x = Steps.stored();
        x.begin();
        for (int m = 1; m <= 5; m++) {
            Steps.put(x, 0, "k" + m, "v");
            Expect.same("mark", x.mark(), m);
        }
        Steps.put(x, 0, "k6", "v");
        Expect.off("a sixth", x::mark);
        Expect.off("a sixth again", x::mark);
        Expect.same("MARKS", x.told(2), 5);
        x.back(5);
        Expect.yes("the fifth is as it was", Steps.all(x, 0).equals("a=1 b=2 k1=v k2=v k3=v k4=v k5=v "));
        Expect.off("still five", x::mark);
        x.keep(5);
        Expect.same("the fifth again", x.mark(), 5);
        Expect.off("and no sixth", x::mark);
    }

    private static void asAtTheMark() {
        for (int m = 1; m <= 5; m++) {
            KeyStore x = Steps.stored();
            x.begin();
            for (int i = 1; i <= 5; i++) {
                Steps.put(x, 0, "k", "at " + i);
                x.mark();
                x.tree();
            }
            x.drop(0);
            x.back(m);
            Expect.yes("ENTRIES at " + m, Steps.all(x, 0).equals("a=1 b=2 k=at " + m + " "));
            Expect.same("TREES at " + m, x.told(3), m);
            Expect.same("SIZE at " + m, x.told(4), 36 + 21);
            Expect.same("check", x.check(), 0);
            x.commit();
            Expect.same("lasting TREES", x.reopen(), m);
            Expect.yes("lasting ENTRIES", Steps.all(x, 0).equals("a=1 b=2 k=at " + m + " "));
        }
    }

    private static void backForgets() {
        KeyStore x = Steps.stored();
        x.begin();
        for (int m = 1; m <= 5; m++) {
            x.mark();
        }
        x.back(5);
        Expect.same("none is behind the fifth", x.told(2), 5);
        x.back(2);
        Expect.same("two stay", x.told(2), 2);
        Expect.noIndex("the third is forgotten", () -> x.back(3));
        x.tree();
        x.back(2);
        Expect.same("it stays and can be gone to", x.told(3), 1);
        x.tree();
        x.back(1);
        Expect.same("the one before stays", x.told(2), 1);
        x.tree();
        x.back(1);
        Expect.same("it too", x.told(3), 1);
    }

    private static void refusedBeforeMark(MarkCall call) {
        int[] marks = {1, 0, 6, -1, Integer.MAX_VALUE, Integer.MIN_VALUE};
        for (int m : marks) {
            Expect.off("OFF, MARK " + m, () -> call.of(Steps.off(), m));
            Expect.off("not open, MARK " + m, () -> call.of(Steps.stored(), m));
        }
        KeyStore x = busy();
        x.commit();
        Expect.off("open no more", () -> call.of(x, 1));
    }

    private static void noMark(MarkCall call) {
        for (int marks = 0; marks <= 5; marks++) {
            KeyStore x = Steps.stored();
            x.begin();
            for (int i = 0; i < marks; i++) {
                x.mark();
            }
            int next = marks + 1;
            Expect.noIndex("MARK " + next, () -> call.of(x, next));
            for (int m : NO_MARKS) {
                Expect.noIndex("MARK " + m + " of " + marks, () -> call.of(x, m));
            }
            Expect.same("MARKS", x.told(2), marks);
            if (marks > 0) {
                call.of(x, marks);
            }
            if (marks > 1) {
                call.of(x, 1);
            }
        }
    }

    private static void keepForgets() {
        for (int m = 1; m <= 5; m++) {
            KeyStore x = Steps.stored();
            x.begin();
            for (int i = 0; i < 5; i++) {
                x.mark();
            }
            x.keep(m);
            int gone = m;
            Expect.same("MARKS", x.told(2), m - 1);
            Expect.noIndex("it is forgotten", () -> x.back(gone));
            Expect.noIndex("it can't be kept again", () -> x.keep(gone));
            if (m > 1) {
                x.back(m - 1);
            }
            Expect.same("its number is free", x.mark(), m);
        }
    }

    private static void whatWasDoneStays() {
        KeyStore x = Steps.stored();
        x.begin();
        x.mark();
        Steps.put(x, 0, "c", "3");
        x.mark();
        Steps.remove(x, 0, "a");
        x.mark();
        x.tree();
        x.keep(2);
        Expect.yes("ENTRIES", Steps.all(x, 0).equals("b=2 c=3 "));
        Expect.same("TREES", x.told(3), 2);
        x.back(1);
        Expect.yes("a MARK before still goes back over it", Steps.all(x, 0).equals("a=1 b=2 "));
        Steps.put(x, 0, "d", "4");
        x.keep(1);
        x.commit();
        x.reopen();
        Expect.yes("it lasts", Steps.all(x, 0).equals("a=1 b=2 d=4 "));
        x.begin();
        x.mark();
        x.drop(0);
        x.keep(1);
        x.rollback();
        Expect.yes("rollback still goes back over it", Steps.all(x, 0).equals("a=1 b=2 d=4 "));
    }
}
