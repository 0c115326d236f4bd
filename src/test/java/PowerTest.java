import java.util.Arrays;

/** Promises 18 and 19: power, reopen. */
public final class PowerTest {
    private static final String OLD = "a=1 b=2 ";
    private static final String NEW = "b=2 c=3 d=4 ";

    private PowerTest() {
    }

    private static void change(KeyStore x) {
        x.begin();
        Steps.put(x, 0, "c", "3");
        Steps.put(x, 0, "d", "4");
        Steps.remove(x, 0, "a");
        x.tree();
        x.key('l', 1);
        x.fill(false, 300, 7);
        x.put(1);
    }

    private static void isOff(KeyStore x, String what) {
        for (int i = 0; i <= 73; i++) {
            if (i != 9) {
                Expect.same(what + ": told " + i, x.told(i), 0);
            }
        }
        Expect.noElement(what + ": found", x::take);
    }

    private static void isLasting(KeyStore x, String what, boolean changed) {
        Expect.same(what + ": reopen", x.reopen(), changed ? 2 : 1);
        Expect.same(what + ": on", x.told(0), 1);
        Expect.same(what + ": none open", x.told(1), 0);
        Expect.same(what + ": the key", x.told(5), 0);
        Expect.same(what + ": the value", x.told(6), 0);
        Expect.noElement(what + ": found", x::take);
        Expect.same(what + ": check", x.check(), 0);
        Expect.yes(what + ": entries", Steps.all(x, 0).equals(changed ? NEW : OLD));
    }

    /** Cut at each byte of each write, then cut in each way as it is undone. */
    private static void everyCut() {
        int[] bytes = {0, 1, 2, 3, 5, 15, 31, 32, 33, 34, 35, 99, 300};
        for (int when = 0; when <= 1; when++) {
            for (int k = 0; k < 20; k++) {
                for (int b : bytes) {
                    String what = "power " + when + " " + k + " " + b;
                    KeyStore x = Steps.stored();
                    x.power(when, k, b);
                    change(x);
                    Expect.powerFails(what, x::commit);
                    isOff(x, what);
                    x.power(3, (k + b) % 7, b);
                    Expect.powerFails(what + " and 3", x::reopen);
                    isOff(x, what + " and 3");
                    isLasting(x, what, false);
                    change(x);
                    x.commit();
                    isLasting(x, what + " then", true);
                }
            }
        }
    }

    private static void farWrites() {
        for (int when = 0; when <= 1; when++) {
            KeyStore x = Steps.stored();
            x.power(when, 1000, 300);
            change(x);
            Expect.powerFails("fewer writes", x::commit);
            isLasting(x, "fewer writes", false);
            x.power(when, 0, 0);
            x.begin();
            Expect.powerFails("nothing changed", x::commit);
            isLasting(x, "nothing changed", false);
        }
    }

    private static void atTheEnd() {
        int[] ks = {0, 1, 2, 1000};
        for (int k : ks) {
            KeyStore x = Steps.stored();
            x.power(2, k, 0);
            change(x);
            Expect.powerFails("at the end " + k, x::commit);
            isOff(x, "at the end " + k);
            Expect.off("reopen is needed", x::begin);
            isLasting(x, "at the end " + k, k != 0);
        }
    }

    /** The file was really written in part, and the journal undoes it. */
    private static void filesAreCut() {
        KeyStore x = Steps.stored();
        byte[] file = (byte[]) Expect.inside(x, "disk", "file");
        byte[] before = file.clone();
        x.power(0, 2, 10);
        change(x);
        Expect.powerFails("cut in the journal", x::commit);
        Expect.yes("the file waits for the journal", Arrays.equals(before, file));
        Expect.same("what the journal has", (Integer) Expect.inside(x, "disk", "journalLength"), 2 * 34 + 10);
        x.reopen();
        Expect.same("the journal is empty", (Integer) Expect.inside(x, "disk", "journalLength"), 0);
        x.power(1, 3, 5);
        change(x);
        Expect.powerFails("cut in the file", x::commit);
        byte[] cut = file.clone();
        Expect.yes("the file is cut", !Arrays.equals(before, cut));
        x.power(3, 0, 9);
        Expect.powerFails("cut as it is undone", x::reopen);
        Expect.yes("some is undone", !Arrays.equals(cut, file));
        Expect.yes("not all is undone", !Arrays.equals(before, file));
        x.power(3, 1000, 0);
        Expect.powerFails("all undone", x::reopen);
        Expect.yes("the file is as it was", Arrays.equals(before, file));
        Expect.yes("the journal stands", (Integer) Expect.inside(x, "disk", "journalLength") > 0);
        isLasting(x, "undone", false);
    }

    /** Where a row differs from another: its first place, or -1. */
    private static int firstDifference(byte[] one, byte[] other) {
        return Arrays.mismatch(one, other);
    }

    private static int lastDifference(byte[] one, byte[] other) {
        for (int i = one.length - 1; i >= 0; i--) {
            if (one[i] != other[i]) {
                return i;
            }
        }
        return -1;
    }

    /** What a cut write leaves: all before it, its first bytes, nothing behind. */
    private static void whatACutLeaves() {
        KeyStore whole = Steps.stored();
        change(whole);
        whole.commit();
        byte[] after = (byte[]) Expect.inside(whole, "disk", "file");
        for (int k = 0; k < 4; k++) {
            for (int b = 0; b <= 33; b++) {
                KeyStore x = Steps.stored();
                byte[] file = (byte[]) Expect.inside(x, "disk", "file");
                byte[] before = file.clone();
                x.power(1, k, b);
                change(x);
                Expect.powerFails("cut", x::commit);
                int reached = lastDifference(before, file);
                int missed = firstDifference(after, file);
                Expect.yes("all that is new comes before all that is old", reached < missed);
                Expect.yes("nothing of the first write", k > 0 || b > 0 || reached == -1);
                Expect.yes("bytes of write " + k, k > 0 || reached < b && missed >= b);
                isLasting(x, "cut " + k + " " + b, false);
            }
        }
    }

    private static void howLongItStays() {
        KeyStore x = Steps.stored();
        x.power(0, 0, 0);
        x.power(4, 0, 0);
        change(x);
        x.commit();
        Expect.same("4: not at all", x.told(0), 1);
        x.power(1, 0, 0);
        x.begin();
        x.rollback();
        Expect.off("a commit that throws otherwise", x::commit);
        x.begin();
        Expect.powerFails("stays till a commit", x::commit);
        x.reopen();
        x.begin();
        x.commit();
        Expect.same("once", x.told(0), 1);
        x.power(2, 1, 0);
        x.reopen();
        x.begin();
        x.commit();
        Expect.same("forgotten by reopen", x.told(0), 1);
        x.power(3, 0, 0);
        x.begin();
        x.commit();
        x.begin();
        Expect.powerFails("3 stays over a commit", x::reopen);
        Expect.same("OFF", x.told(0), 0);
        Expect.same("once in reopen", x.reopen(), 2);
        x.power(3, 0, 0);
        x.power(2, 0, 0);
        Expect.same("the last word counts", x.reopen(), 2);
        x.power(0, 0, 0);
        x.power(3, 0, 0);
        x.begin();
        x.commit();
        Expect.powerFails("the last word counts, too", x::reopen);
    }

    private static void wrongWords() {
        KeyStore x = Steps.stored();
        x.power(2, 0, 0);
        int[][] wrong = {{-1, 0, 0}, {5, 0, 0}, {0, -1, 0}, {1, 1001, 0}, {2, 0, -1}, {3, 0, 301}, {4, 1001, 0},
            {4, 0, 301}, {4, -1, 0}, {Integer.MIN_VALUE, 0, 0}, {Integer.MAX_VALUE, 0, 0}};
        for (int[] w : wrong) {
            Expect.badArgument("power " + Arrays.toString(w), () -> x.power(w[0], w[1], w[2]));
        }
        x.begin();
        Expect.powerFails("what was said stays", x::commit);
        Expect.badArgument("power OFF", () -> x.power(0, 0, 301));
        x.power(4, 1000, 300);
        Expect.same("reopen", x.reopen(), 1);
    }

    private static void reopen() {
        KeyStore x = Steps.stored();
        Steps.get(x, 0, "a");
        Steps.value(x, "v");
        x.begin();
        x.tree();
        x.mark();
        isLasting(x, "reopen when on", false);
        Expect.same("marks", x.told(2), 0);
        isLasting(x, "reopen again", false);
        KeyStore off = Steps.off();
        isOff(off, "off");
        Expect.off("check OFF", off::check);
        isLasting(off, "reopen when OFF", false);
    }

    private static void manyPages() {
        KeyStore x = Steps.stored();
        for (int k = 0; k < 700; k += 23) {
            x.power(1, k, k % 33);
            x.begin();
            x.tree();
            x.key(0, 0);
            x.fill(true, 8448, k);
            x.value(0, 0);
            x.fill(false, 8448, k);
            x.put(1);
            x.drop(0);
            Expect.powerFails("many pages " + k, x::commit);
            isLasting(x, "many pages " + k, false);
        }
    }

    public static void main(String[] args) {
        everyCut();
        farWrites();
        atTheEnd();
        filesAreCut();
        whatACutLeaves();
        howLongItStays();
        wrongWords();
        reopen();
        manyPages();
        Expect.end("PowerTest");
    }
}
