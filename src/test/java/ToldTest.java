/** Promise 20: told. */
public final class ToldTest {
    private ToldTest() {
    }

    private static void wrongWhat(KeyStore x) {
        int[] wrong = {-1, 9, 74, 100, Integer.MIN_VALUE, Integer.MAX_VALUE};
        for (int what : wrong) {
            Expect.badArgument("told " + what, () -> x.told(what));
        }
    }

    private static void on() {
        KeyStore x = Steps.stored();
        x.begin();
        Expect.same("tree", x.tree(), 1);
        x.mark();
        x.mark();
        Steps.put(x, 1, "key", "value");
        Steps.key(x, "a");
        x.seek(1, false);
        Steps.key(x, "four");
        Steps.value(x, "sixsix");
        int[] due = {1, 1, 2, 2, 36 + 24, 4, 6, 3, 5};
        for (int what = 0; what < due.length; what++) {
            Expect.same("told " + what, x.told(what), due[what]);
        }
        Expect.same("entries of 0", x.told(10), 2);
        Expect.same("entries of 1", x.told(11), 1);
        for (int what = 12; what <= 73; what++) {
            Expect.same("told " + what, x.told(what), -1);
        }
        wrongWhat(x);
        x.drop(0);
        Expect.same("dropped", x.told(10), -1);
        x.rollback();
        Expect.same("no transaction", x.told(1), 0);
        Expect.same("no marks", x.told(2), 0);
        Expect.same("tree 1 is gone", x.told(11), -1);
        Expect.same("found stays", x.told(8), 5);
    }

    private static void last() {
        KeyStore x = new KeyStore();
        x.begin();
        for (int t = 0; t < 64; t++) {
            x.tree();
        }
        x.key(1, 1);
        x.put(63);
        Expect.same("entries of 63", x.told(73), 1);
        Expect.same("entries of 62", x.told(72), 0);
        Expect.same("trees", x.told(3), 64);
    }

    private static void off() {
        KeyStore x = Steps.off();
        for (int what = 0; what <= 73; what++) {
            if (what != 9) {
                Expect.same("told " + what + " OFF", x.told(what), 0);
            }
        }
        wrongWhat(x);
    }

    public static void main(String[] args) {
        on();
        last();
        off();
        Expect.end("ToldTest");
    }
}
