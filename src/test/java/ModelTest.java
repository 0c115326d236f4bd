import java.util.Random;

/** The same calls, drawn from a seed, on a store and on the plain model: the same answers (promises 1 to 21). */
public final class ModelTest {
    private static final int ENTRIES = 0;
    private static final int WIDE = 1;
    private static final int LONG = 2;
    private static final int POWER = 3;
    private static final int WRONG = 4;
    private static final int KINDS = 5;

    private final Random random;
    private final int kind;
    private final KeyStore x = new KeyStore();
    private final Model m = new Model();
    private final StringBuilder told = new StringBuilder();

    private ModelTest(long seed, int kind) {
        random = new Random(seed);
        this.kind = kind;
    }

    private static long answer(Expect.Call call) {
        return call.answer();
    }

    /** Whether both calls gave the same answer, or threw the same. */
    private boolean agree(String what, Expect.Call ours, Expect.Call plain) {
        String got;
        String due;
        try {
            got = "" + answer(ours);
        } catch (RuntimeException e) {
            got = e.getClass().getName();
        }
        try {
            due = "" + answer(plain);
        } catch (RuntimeException e) {
            due = e.getClass().getName();
        }
        told.append(what).append(" -> ").append(due).append('\n');
        if (!got.equals(due)) {
            Expect.fault(told.substring(Math.max(0, told.length() - 2000)) + "answered " + got);
            return false;
        }
        return true;
    }

    private boolean act(String what, Expect.Act ours, Expect.Act plain) {
        return agree(what, () -> {
            ours.run();
            return 0;
        }, () -> {
            plain.run();
            return 0;
        });
    }

    private int number(int n) {
        return random.nextInt(n);
    }

    private boolean words(boolean key, long w, int n) {
        return key ? agree("key " + w + " " + n, () -> x.key(w, n), () -> m.key(w, n))
            : agree("value " + w + " " + n, () -> x.value(w, n), () -> m.value(w, n));
    }

    private boolean fill(boolean key, int n, int b) {
        return agree("fill " + key + " " + n + " " + b, () -> x.fill(key, n, b), () -> m.fill(key, n, b));
    }

    private boolean newKey() {
        boolean right = number(4) == 0 || words(true, 0, 0);
        if (kind == LONG) {
            right = right && fill(true, number(3) == 0 ? number(8449) : 50 * number(8), number(2) * 255);
            return right && words(true, number(4), number(3));
        }
        int n = kind == WIDE ? 1 : 1 + number(2);
        return right && words(true, kind == WIDE ? number(40) * 6 : random.nextInt(1 << 16), n);
    }

    private boolean newValue() {
        boolean right = number(8) == 0 || words(false, 0, 0);
        if (kind == LONG && number(2) == 0) {
            return right && fill(false, number(3) == 0 ? number(8449) : number(100), number(256));
        }
        return right && words(false, random.nextLong(), kind == ENTRIES ? number(3) : number(9));
    }

    private int someTree() {
        return kind == WIDE ? number(66) - 1 : number(20) == 0 ? number(70) - 3 : number(2);
    }

    private boolean change() {
        int t = someTree();
        switch (number(kind == WIDE ? 9 : 24)) {
            case 0: return agree("tree", x::tree, m::tree);
            case 1: return number(6) != 0 || agree("drop " + t, () -> x.drop(t), () -> m.drop(t));
            case 2:
            case 3:
            case 4: return newKey() && remove(t);
            case 5: return newKey() && newValue() && put(t);
            case 6: return (m.told(7) == 0 || agree("take", x::take, m::take)) && remove(t);
            default: return newKey() && (number(2) == 0 || newValue()) && put(t);
        }
    }

    private boolean put(int t) {
        return agree("put " + t, () -> x.put(t) ? 1 : 0, () -> m.put(t) ? 1 : 0);
    }

    private boolean remove(int t) {
        return agree("remove " + t, () -> x.remove(t) ? 1 : 0, () -> m.remove(t) ? 1 : 0);
    }

    private boolean look() {
        int t = someTree();
        boolean after = number(2) == 0;
        int what = number(40) == 0 ? number(5) - 2 : number(2);
        int from = number(3) == 0 ? number(8600) - 50 : number(12);
        int which = number(10) == 0 ? number(80) - 3 : number(14);
        switch (number(6)) {
            case 0: return newKey() && agree("seek", () -> x.seek(t, after) ? 1 : 0, () -> m.seek(t, after) ? 1 : 0);
            case 1: return agree("seek", () -> x.seek(t, after) ? 1 : 0, () -> m.seek(t, after) ? 1 : 0);
            case 2: return agree("found", () -> x.found(what, from), () -> m.found(what, from));
            case 3: return agree("told " + which, () -> x.told(which), () -> m.told(which));
            case 4: return agree("take", x::take, m::take);
            default: return agree("check", x::check, m::check);
        }
    }

    private boolean open() {
        int mark = number(7) - (kind == WRONG ? 1 : 0);
        switch (number(kind == POWER ? 8 : 12)) {
            case 0: return act("commit", x::commit, m::commit);
            case 1: return act("rollback", x::rollback, m::rollback);
            case 2:
            case 3: return agree("mark", x::mark, m::mark);
            case 4: return act("back " + mark, () -> x.back(mark), () -> m.back(mark));
            case 5: return act("keep " + mark, () -> x.keep(mark), () -> m.keep(mark));
            default: return m.told(1) == 1 && kind != WRONG || act("begin", x::begin, m::begin);
        }
    }

    private boolean power() {
        int bound = kind == WRONG ? 2 : 0;
        int when = number(5 + bound) - bound / 2;
        int k = number(3) == 0 ? number(1001 + bound) - bound / 2 : number(8);
        int b = number(301 + bound) - bound / 2;
        return act("power " + when + " " + k + " " + b, () -> x.power(when, k, b), () -> m.power(when, k, b));
    }

    private boolean step() {
        if (m.told(0) == 0 && number(4) != 0) {
            return (number(3) != 0 || power()) && agree("reopen", x::reopen, m::reopen);
        }
        if (m.told(1) == 0 && number(4) != 0 && kind != WRONG) {
            return act("begin", x::begin, m::begin);
        }
        int choice = number(100);
        int rare = kind == POWER || kind == WRONG ? 12 : 1;
        if (choice < rare) {
            return number(3) == 0 ? agree("reopen", x::reopen, m::reopen) : power();
        }
        if (choice < 2 * rare + 3) {
            return open();
        }
        return choice < 25 ? look() : change();
    }

    /** All ENTRIES of all TREES, by seeking from one to the next. */
    private boolean sameEntries() {
        boolean right = true;
        for (int i = 10; i < 74 && right; i++) {
            int t = i - 10;
            right = agree("told " + i, () -> x.told(t + 10), () -> m.told(t + 10)) && words(true, 0, 0);
            for (int j = 0; right && j <= m.told(t + 10); j++) {
                right = agree("seek " + t, () -> x.seek(t, true) ? 1 : 0, () -> m.seek(t, true) ? 1 : 0)
                    && agree("found 0", () -> x.found(0, m.told(7) - 8), () -> m.found(0, m.told(7) - 8))
                    && agree("found 1", () -> x.found(1, 0), () -> m.found(1, 0))
                    && agree("take", x::take, m::take);
            }
        }
        return right && agree("told 4", () -> x.told(4), () -> m.told(4)) && agree("check", x::check, m::check);
    }

    private void run(int steps) {
        for (int i = 0; i < steps; i++) {
            if (!step()) {
                return;
            }
            if (i % 400 == 399 && m.told(0) == 1 && !sameEntries()) {
                return;
            }
        }
        if (agree("reopen", x::reopen, m::reopen)) {
            sameEntries();
        }
    }

    public static void main(String[] args) {
        int most = args.length > 0 ? Integer.parseInt(args[0]) : 40;
        for (int kind = 0; kind < KINDS; kind++) {
            for (int seed = 0; seed < most && Expect.wrong() < 3; seed++) {
                new ModelTest(1000L * kind + seed, kind).run(seed % 8 == 0 ? 6000 : 250);
            }
        }
        Expect.end("ModelTest");
    }
}
