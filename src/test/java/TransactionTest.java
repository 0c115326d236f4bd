/** Promises 12 to 17: begin, commit, rollback, mark, back, keep. */
public final class TransactionTest {
    private TransactionTest() {
    }

    private static void noMark(String what, Expect.Act act) {
        Expect.thrown(what, IndexOutOfBoundsException.class, act);
    }

    private static void begin() {
        KeyStore x = new KeyStore();
        x.begin();
        Expect.same("open", x.told(1), 1);
        Expect.same("marks", x.told(2), 0);
        Expect.off("begin twice", x::begin);
        x.mark();
        x.commit();
        x.begin();
        Expect.same("no marks of the last one", x.told(2), 0);
        noMark("back to one of the last", () -> x.back(1));
        Expect.off("begin OFF", Steps.off()::begin);
    }

    private static void commit() {
        KeyStore x = new KeyStore();
        Expect.off("commit of none", x::commit);
        x.begin();
        x.tree();
        Steps.put(x, 0, "a", "1");
        x.commit();
        Expect.same("none is open", x.told(1), 0);
        Expect.off("commit again", x::commit);
        Expect.off("rollback behind it", x::rollback);
        Expect.same("the key stays", x.told(5), 1);
        Expect.same("reopen", x.reopen(), 1);
        Expect.yes("it lasts", Steps.all(x, 0).equals("a=1 "));
        x.begin();
        x.commit();
        Expect.same("a commit of nothing", x.reopen(), 1);
        x.begin();
        Steps.put(x, 0, "b", "2");
        Expect.same("not yet lasting", x.reopen(), 1);
        Expect.yes("not there", Steps.all(x, 0).equals("a=1 "));
        Expect.same("none is open", x.told(1), 0);
        Expect.off("commit OFF", Steps.off()::commit);
    }

    private static void rollback() {
        KeyStore x = Steps.stored();
        Expect.off("rollback of none", x::rollback);
        x.begin();
        x.tree();
        Steps.put(x, 1, "z", "26");
        Steps.put(x, 0, "a", "new");
        Steps.put(x, 0, "c", "3");
        Steps.remove(x, 0, "b");
        x.mark();
        x.drop(0);
        x.rollback();
        Expect.same("none is open", x.told(1), 0);
        Expect.same("no marks", x.told(2), 0);
        Expect.same("trees", x.told(3), 1);
        Expect.same("size", x.told(4), 36);
        Expect.same("the key stays", x.told(5), 1);
        Expect.yes("as it was", Steps.all(x, 0).equals("a=1 b=2 "));
        Expect.same("check", x.check(), 0);
        Expect.off("rollback again", x::rollback);
        x.begin();
        Steps.put(x, 0, "d", "4");
        x.commit();
        x.reopen();
        Expect.yes("it goes on from there", Steps.all(x, 0).equals("a=1 b=2 d=4 "));
        Expect.off("rollback OFF", Steps.off()::rollback);
    }

    private static void mark() {
        KeyStore x = Steps.stored();
        Expect.off("mark without a transaction", x::mark);
        x.begin();
        for (int m = 1; m <= 5; m++) {
            Expect.same("mark", x.mark(), m);
            Expect.same("marks", x.told(2), m);
        }
        Expect.off("a sixth", x::mark);
        Expect.same("still five", x.told(2), 5);
        x.keep(4);
        Expect.same("the fourth again", x.mark(), 4);
        x.back(2);
        Expect.same("the third again", x.mark(), 3);
        Expect.off("mark OFF", Steps.off()::mark);
    }

    private static void back() {
        KeyStore x = Steps.stored();
        Expect.off("back without a transaction", () -> x.back(1));
        x.begin();
        noMark("back to none", () -> x.back(1));
        String[] states = new String[6];
        for (int m = 1; m <= 5; m++) {
            states[m] = Steps.all(x, 0);
            x.mark();
            Steps.put(x, 0, "k" + m, "v" + m);
            Steps.put(x, 0, "a", "changed" + m);
        }
        int[] wrong = {0, 6, -1, Integer.MIN_VALUE, Integer.MAX_VALUE};
        for (int m : wrong) {
            noMark("back to " + m, () -> x.back(m));
        }
        for (int m = 5; m >= 1; m -= 2) {
            x.back(m);
            Expect.same("marks", x.told(2), m);
            Expect.yes("as it was at " + m, Steps.all(x, 0).equals(states[m]));
            Expect.same("check", x.check(), 0);
            Steps.put(x, 0, "a", "other");
            x.tree();
            x.back(m);
            Expect.yes("once more at " + m, Steps.all(x, 0).equals(states[m]));
            Expect.same("trees", x.told(3), 1);
        }
        noMark("those behind are forgotten", () -> x.back(2));
        Steps.put(x, 0, "e", "5");
        x.commit();
        x.reopen();
        Expect.yes("what was done behind back lasts", Steps.all(x, 0).equals("a=1 b=2 e=5 "));
        Expect.off("back OFF", () -> Steps.off().back(1));
    }

    private static void backOverDrop() {
        KeyStore x = Steps.stored();
        x.begin();
        x.tree();
        x.fill(false, 5000, 6);
        x.key('y', 1);
        x.put(1);
        Expect.same("mark", x.mark(), 1);
        x.drop(1);
        x.drop(0);
        x.tree();
        x.back(1);
        Expect.same("trees", x.told(3), 2);
        Expect.same("entries", x.told(10) + x.told(11), 3);
        Expect.same("check", x.check(), 0);
        x.rollback();
        Expect.yes("as it was", Steps.all(x, 0).equals("a=1 b=2 "));
        Expect.same("check", x.check(), 0);
    }

    private static void keep() {
        KeyStore x = Steps.stored();
        Expect.off("keep without a transaction", () -> x.keep(1));
        x.begin();
        noMark("keep of none", () -> x.keep(1));
        x.mark();
        Steps.put(x, 0, "c", "3");
        x.mark();
        Steps.put(x, 0, "d", "4");
        x.mark();
        Steps.put(x, 0, "e", "5");
        int[] wrong = {0, 4, -1, Integer.MIN_VALUE, Integer.MAX_VALUE};
        for (int m : wrong) {
            noMark("keep of " + m, () -> x.keep(m));
        }
        x.keep(2);
        Expect.same("marks", x.told(2), 1);
        Expect.yes("what was done stays", Steps.all(x, 0).equals("a=1 b=2 c=3 d=4 e=5 "));
        noMark("back to what was forgotten", () -> x.back(2));
        x.back(1);
        Expect.yes("back before all", Steps.all(x, 0).equals("a=1 b=2 "));
        Steps.put(x, 0, "f", "6");
        x.keep(1);
        Expect.same("no marks", x.told(2), 0);
        x.rollback();
        Expect.yes("rollback goes to begin", Steps.all(x, 0).equals("a=1 b=2 "));
        Expect.off("keep OFF", () -> Steps.off().keep(1));
    }

    public static void main(String[] args) {
        begin();
        commit();
        rollback();
        mark();
        back();
        backOverDrop();
        keep();
        Expect.end("TransactionTest");
    }
}
