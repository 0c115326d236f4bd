import java.util.NoSuchElementException;

/**
 * A store of rows under keys that lasts: trees of pages with chains and free pages, in a file before
 * which a journal stands. Calls work on a copy of the file's pages in memory; commit first saves in the
 * journal what the file's pages held, then writes the changed ones, then empties the journal; reopen
 * writes back what a journal that was not emptied holds.
 */
public final class KeyStore {
    private static final int LONGEST = 8448;
    private static final int MOST_SIZE = 36864;
    private static final int ENTRY_SIZE = 16;
    private static final int MOST_TREES = 64;
    private static final int MOST_MARKS = 5;

    // A page is small, as every ENTRY has a chain of its own and the least ENTRY takes a whole page.
    private static final int PAGE = 32;
    private static final int HEAD_PAGES = 9;
    private static final int HEAD_LENGTH = HEAD_PAGES * PAGE;
    // Never all in use: SIZE lets in 2168 ENTRIES, which have most pages if each is of one byte (one page
    // each); as all nodes but roots are half full, 64 trees have at most 373 leaves and 139 nodes above.
    private static final int PAGES = 2720;
    private static final int LENGTH = PAGES * PAGE;

    // Where the head of the file holds its numbers; a file of zeros is a store without TREES.
    private static final int USED = 0;
    private static final int FREE_FIRST = 2;
    private static final int FREE_COUNT = 4;
    private static final int TREE_COUNT = 6;
    private static final int SIZE_SUM = 8;
    private static final int ROOTS = PAGE;

    private static final int IN_JOURNAL = 0;
    private static final int IN_FILE = 1;
    private static final int AT_END = 2;
    private static final int IN_REOPEN = 3;
    private static final int NEVER = 4;

    private final Row theKey = new Row();
    private final Row theValue = new Row();
    private final Row foundKey = new Row();
    private final Row foundValue = new Row();
    private final Disk disk = new Disk();
    private final Pages pages = new Pages();
    private final Marks marks = new Marks();
    private final Chains chains;
    private final Trees trees;
    private final Checker checker;
    private boolean isFound;
    private boolean isOn;
    private boolean isOpen;

    public KeyStore() {
        Nodes nodes = new Nodes(pages);
        chains = new Chains(pages);
        trees = new Trees(pages, nodes, chains);
        checker = new Checker(pages, nodes, chains, trees);
        isFound = false;
        isOn = true;
        isOpen = false;
    }

    public int key(long w, int n) throws IllegalArgumentException, IllegalStateException {
        return appendWord(theKey, w, n);
    }

    public int value(long w, int n) throws IllegalArgumentException, IllegalStateException {
        return appendWord(theValue, w, n);
    }

    public int fill(boolean key, int n, int b) throws IllegalArgumentException, IllegalStateException {
        if (n < 0 || n > LONGEST) {
            throw new IllegalArgumentException("n is not 0 to 8448");
        }
        Row row = key ? theKey : theValue;
        demandRoom(row, n);
        row.appendSame(n, b);
        return row.length();
    }

    public int tree() throws IllegalStateException {
        demandOpen();
        int t = trees.leastUnused();
        if (t == MOST_TREES) {
            throw new IllegalStateException("all TREES are there");
        }
        trees.addTree(t);
        return t;
    }

    public int drop(int t) throws IllegalStateException, NoSuchElementException {
        demandOpen();
        demandTree(t);
        return trees.dropTree(t);
    }

    public boolean put(int t) throws IllegalStateException, NoSuchElementException, IllegalArgumentException {
        demandOpen();
        demandTree(t);
        if (theKey.length() == 0) {
            throw new IllegalArgumentException("THE KEY is empty");
        }
        int old = trees.lookUp(t, theKey);
        int more = ENTRY_SIZE + theKey.length() + theValue.length() - chains.size(old);
        if (pages.number(SIZE_SUM) + more > MOST_SIZE) {
            throw new IllegalStateException("SIZE would be above 36864");
        }
        if (old != 0) {
            trees.replaceHere(theKey, theValue);
        } else {
            trees.insertHere(t, theKey, theValue);
        }
        return old != 0;
    }

    public boolean remove(int t) throws IllegalStateException, NoSuchElementException {
        demandOpen();
        demandTree(t);
        int old = trees.lookUp(t, theKey);
        if (old != 0) {
            trees.deleteHere(t);
        }
        return old != 0;
    }

    public boolean seek(int t, boolean after) throws IllegalStateException, NoSuchElementException {
        demandOn();
        demandTree(t);
        int chain = trees.firstFrom(t, theKey, after);
        isFound = chain != 0;
        foundKey.clear();
        foundValue.clear();
        if (isFound) {
            chains.copyTo(chain, foundKey, foundValue);
        }
        return isFound;
    }

    public int take() throws NoSuchElementException {
        demandFound();
        theKey.become(foundKey);
        return theKey.length();
    }

    public long found(int what, int from) throws IllegalArgumentException, NoSuchElementException {
        if (what != 0 && what != 1) {
            throw new IllegalArgumentException("what is not 0 or 1");
        }
        demandFound();
        return what == 0 ? foundKey.word(from) : foundValue.word(from);
    }

    public void begin() throws IllegalStateException {
        demandOn();
        if (isOpen) {
            throw new IllegalStateException("a TRANSACTION is open");
        }
        isOpen = true;
    }

    public void commit() throws IllegalStateException, ArithmeticException {
        demandOpen();
        boolean held = disk.save(pages);
        endTransaction();
        if (!held) {
            losePower();
            throw new ArithmeticException("power failed");
        }
        pages.forgetChanges();
    }

    public void rollback() throws IllegalStateException {
        demandOpen();
        disk.undo(pages);
        endTransaction();
    }

    public int mark() throws IllegalStateException {
        demandOpen();
        if (marks.count() == MOST_MARKS) {
            throw new IllegalStateException("there are 5 MARKS");
        }
        marks.add(pages);
        return marks.count();
    }

    public void back(int m) throws IllegalStateException, IndexOutOfBoundsException {
        demandOpen();
        demandMark(m);
        marks.restore(m, pages);
        marks.forgetAbove(m);
    }

    public void keep(int m) throws IllegalStateException, IndexOutOfBoundsException {
        demandOpen();
        demandMark(m);
        marks.forgetAbove(m - 1);
    }

    public void power(int when, int k, int b) throws IllegalArgumentException {
        if (when < IN_JOURNAL || when > NEVER || k < 0 || k > 1000 || b < 0 || b > 300) {
            throw new IllegalArgumentException("when is not 0 to 4, k not 0 to 1000, or b not 0 to 300");
        }
        disk.plan(when, k, b);
    }

    public int reopen() throws ArithmeticException {
        losePower();
        if (!disk.recover()) {
            throw new ArithmeticException("power failed");
        }
        disk.load(pages);
        isOn = true;
        return pages.number(TREE_COUNT);
    }

    public int told(int what) throws IllegalArgumentException {
        if (what < 0 || what == 9 || what >= 10 + MOST_TREES) {
            throw new IllegalArgumentException("what is not 0 to 8 or 10 to 73");
        }
        if (!isOn) {
            return 0;
        }
        switch (what) {
            case 0: return 1;
            case 1: return isOpen ? 1 : 0;
            case 2: return marks.count();
            case 3: return pages.number(TREE_COUNT);
            case 4: return pages.number(SIZE_SUM);
            case 5: return theKey.length();
            case 6: return theValue.length();
            case 7: return foundKey.length();
            case 8: return foundValue.length();
            default: return trees.has(what - 10) ? trees.entries(what - 10) : -1;
        }
    }

    public int check() throws IllegalStateException {
        demandOn();
        return checker.faults();
    }

    private int appendWord(Row row, long w, int n) throws IllegalArgumentException, IllegalStateException {
        if (n < 0 || n > 8) {
            throw new IllegalArgumentException("n is not 0 to 8");
        }
        demandRoom(row, n);
        if (n == 0) {
            row.clear();
        } else {
            row.append(w, n);
        }
        return row.length();
    }

    private void demandOn() throws IllegalStateException {
        if (!isOn) {
            throw new IllegalStateException("it is OFF");
        }
    }

    private void demandOpen() throws IllegalStateException {
        if (!isOn || !isOpen) {
            throw new IllegalStateException("it is OFF, or no TRANSACTION is open");
        }
    }

    private void demandRoom(Row row, int n) throws IllegalStateException {
        if (!isOn || !row.hasRoom(n)) {
            throw new IllegalStateException("it is OFF, or there would be more than 8448 bytes");
        }
    }

    private void demandTree(int t) throws NoSuchElementException {
        if (!trees.has(t)) {
            throw new NoSuchElementException("there is no such TREE");
        }
    }

    private void demandFound() throws NoSuchElementException {
        if (!isFound) {
            throw new NoSuchElementException("FOUND is none");
        }
    }

    private void demandMark(int m) throws IndexOutOfBoundsException {
        if (m < 1 || m > marks.count()) {
            throw new IndexOutOfBoundsException("there is no such MARK");
        }
    }

    private void endTransaction() {
        isOpen = false;
        marks.forgetAbove(0);
    }

    /** All that is not in the files goes; the pages in memory are read anew by reopen. */
    private void losePower() {
        endTransaction();
        isOn = false;
        isFound = false;
        theKey.clear();
        theValue.clear();
        foundKey.clear();
        foundValue.clear();
    }

    /** A row of at most 8448 bytes. */
    private static final class Row {
        private final byte[] bytes = new byte[LONGEST];
        private int length = 0;

        int length() {
            return length;
        }

        void clear() {
            length = 0;
        }

        boolean hasRoom(int n) {
            return n >= 0 && n <= LONGEST - length;
        }

        void append(long w, int n) {
            if (!hasRoom(n)) {
                return;
            }
            for (int i = n - 1; i >= 0; i--) {
                bytes[length] = (byte) (w >> 8 * i);
                length++;
            }
        }

        void appendSame(int n, int b) {
            if (!hasRoom(n)) {
                return;
            }
            for (int i = 0; i < n; i++) {
                bytes[length + i] = (byte) b;
            }
            length += n;
        }

        void appendFrom(byte[] from, int at, int n) {
            if (!hasRoom(n) || at < 0 || at > from.length - n) {
                return;
            }
            System.arraycopy(from, at, bytes, length, n);
            length += n;
        }

        void become(Row other) {
            clear();
            appendFrom(other.bytes, 0, other.length);
        }

        /** At most eight bytes from a place on, as a number; 0 if there are none. */
        long word(int from) {
            if (from < 0 || from >= length) {
                return 0;
            }
            int end = Math.min(length, from + 8);
            long w = 0;
            for (int i = from; i < end; i++) {
                w = w << 8 | bytes[i] & 255;
            }
            return w;
        }

        /** The first difference between n bytes of this row and n bytes of another, or 0. */
        int difference(int start, int n, byte[] other, int at) {
            if (start < 0 || start > length - n || at < 0 || at > other.length - n) {
                return 0;
            }
            for (int i = 0; i < n; i++) {
                int difference = (bytes[start + i] & 255) - (other[at + i] & 255);
                if (difference != 0) {
                    return difference;
                }
            }
            return 0;
        }
    }

    /** The file and the journal, which last, and the power that may fail as they are written. */
    private static final class Disk {
        private static final int RECORD = 2 + PAGE;

        private final byte[] file = new byte[LENGTH];
        private final byte[] journal = new byte[PAGES * RECORD];
        private final byte[] record = new byte[RECORD];
        private int journalLength = 0;
        private int failWhen = NEVER;
        private int failWrite = 0;
        private int failBytes = 0;

        void plan(int when, int k, int b) {
            failWhen = when;
            failWrite = k;
            failBytes = b;
        }

        /** Makes the changed pages lasting: whether power held (if not, recover forgets the plan). */
        boolean save(Pages pages) {
            return saveOld(pages) && saveNew(pages) && endSave();
        }

        /** Writes back what the journal holds: whether power held. */
        boolean recover() {
            boolean held = true;
            int records = journalLength / RECORD;
            for (int i = 0; i < records && held; i++) {
                int at = i * RECORD;
                int page = (journal[at] & 255) << 8 | journal[at + 1] & 255;
                held = writeFile(IN_REOPEN, i, page, journal, at + 2);
            }
            held = held && failWhen != IN_REOPEN;
            if (held) {
                journalLength = 0;
            }
            failWhen = NEVER;
            return held;
        }

        void load(Pages pages) {
            pages.load(file);
            pages.forgetChanges();
        }

        void undo(Pages pages) {
            pages.undoChanges(file);
        }

        private boolean saveOld(Pages pages) {
            boolean held = true;
            int writes = 0;
            for (int page = 0; page < PAGES && held; page++) {
                if (pages.isChanged(page)) {
                    held = writeJournal(writes, page);
                    writes++;
                }
            }
            return held;
        }

        private boolean saveNew(Pages pages) {
            boolean held = true;
            int writes = 0;
            for (int page = 0; page < PAGES && held; page++) {
                if (pages.isChanged(page)) {
                    held = writeFile(IN_FILE, writes, page, pages.bytes(), page * PAGE);
                    writes++;
                }
            }
            return held;
        }

        private boolean endSave() {
            boolean failsBefore = failWhen == IN_JOURNAL || failWhen == IN_FILE
                || failWhen == AT_END && failWrite == 0;
            if (failsBefore) {
                return false;
            }
            journalLength = 0;
            return failWhen != AT_END;
        }

        private boolean writeJournal(int write, int page) {
            record[0] = (byte) (page >> 8);
            record[1] = (byte) page;
            System.arraycopy(file, page * PAGE, record, 2, PAGE);
            int n = bytesWritten(IN_JOURNAL, write, RECORD);
            if (n <= journal.length - journalLength) {
                System.arraycopy(record, 0, journal, journalLength, n);
                journalLength += n;
            }
            return !fails(IN_JOURNAL, write);
        }

        private boolean writeFile(int when, int write, int page, byte[] from, int at) {
            int n = bytesWritten(when, write, PAGE);
            if (page < PAGES && at <= from.length - n) {
                System.arraycopy(from, at, file, page * PAGE, n);
            }
            return !fails(when, write);
        }

        private boolean fails(int when, int write) {
            return failWhen == when && failWrite == write;
        }

        private int bytesWritten(int when, int write, int n) {
            return fails(when, write) ? Math.min(failBytes, n) : n;
        }
    }

    /** The pages in memory, which of them have changed since begin, and the free ones. */
    private static final class Pages {
        private final byte[] bytes = new byte[LENGTH];
        private final boolean[] changed = new boolean[PAGES];

        byte[] bytes() {
            return bytes;
        }

        boolean isChanged(int page) {
            return page >= 0 && page < PAGES && changed[page];
        }

        void forgetChanges() {
            for (int page = 0; page < PAGES; page++) {
                changed[page] = false;
            }
        }

        void undoChanges(byte[] from) {
            for (int page = 0; page < PAGES; page++) {
                if (changed[page]) {
                    System.arraycopy(from, page * PAGE, bytes, page * PAGE, PAGE);
                    changed[page] = false;
                }
            }
        }

        /** How many pages are in use or free behind the head. */
        int used() {
            return Math.min(number(USED), PAGES - HEAD_PAGES);
        }

        void saveTo(byte[] to) {
            System.arraycopy(bytes, 0, to, 0, HEAD_LENGTH + used() * PAGE);
        }

        void load(byte[] from) {
            System.arraycopy(from, 0, bytes, 0, HEAD_LENGTH);
            System.arraycopy(from, HEAD_LENGTH, bytes, HEAD_LENGTH, used() * PAGE);
        }

        int number(int at) {
            if (at < 0 || at > LENGTH - 2) {
                return 0;
            }
            return (bytes[at] & 255) << 8 | bytes[at + 1] & 255;
        }

        /** The place is even, so that both bytes lie in one page. */
        void setNumber(int at, int n) {
            if (at < 0 || at > LENGTH - 2) {
                return;
            }
            bytes[at] = (byte) (n >> 8);
            bytes[at + 1] = (byte) n;
            changed[at / PAGE] = true;
        }

        void addTo(int at, int n) {
            setNumber(at, number(at) + n);
        }

        /** The bytes lie in one page, too. */
        void write(Row row, int start, int n, int at) {
            if (start < 0 || n < 1 || start > row.length() - n || at < 0 || at > LENGTH - n) {
                return;
            }
            System.arraycopy(row.bytes, start, bytes, at, n);
            changed[at / PAGE] = true;
        }

        /** A page whose first two numbers are 0; a free one before one that was never used. */
        int newPage() {
            int page = number(FREE_FIRST);
            if (page != 0) {
                setNumber(FREE_FIRST, number(page * PAGE));
                addTo(FREE_COUNT, -1);
            } else {
                page = HEAD_PAGES + used();
                addTo(USED, 1);
            }
            setNumber(page * PAGE, 0);
            setNumber(page * PAGE + 2, 0);
            return page;
        }

        void freePage(int page) {
            setNumber(page * PAGE, number(FREE_FIRST));
            setNumber(FREE_FIRST, page);
            addTo(FREE_COUNT, 1);
        }
    }

    /** The pages as they were when the MARKS were made. */
    private static final class Marks {
        private final byte[][] saved = new byte[MOST_MARKS][LENGTH];
        private int count = 0;

        int count() {
            return count;
        }

        void add(Pages pages) {
            if (count < MOST_MARKS) {
                pages.saveTo(saved[count]);
                count++;
            }
        }

        void restore(int m, Pages pages) {
            if (m >= 1 && m <= count) {
                pages.load(saved[m - 1]);
            }
        }

        void forgetAbove(int m) {
            if (m >= 0 && m < count) {
                count = m;
            }
        }
    }

    /**
     * ENTRIES, each in a chain of pages that begin with the number of the next one (0: none). The first
     * page holds how many bytes KEY and VALUE have behind that, then both follow, from page to page.
     */
    private static final class Chains {
        private static final int DATA = 2;
        private static final int KEY_LENGTH = 2;
        private static final int VALUE_LENGTH = 4;
        private static final int FIRST_DATA = 6;

        private final Pages pages;
        private int page = 0;
        private int at = 0;

        Chains(Pages pages) {
            this.pages = pages;
        }

        int keyLength(int chain) {
            return pages.number(chain * PAGE + KEY_LENGTH);
        }

        int valueLength(int chain) {
            return pages.number(chain * PAGE + VALUE_LENGTH);
        }

        /** SIZE of the ENTRY, 0 if there is none. */
        int size(int chain) {
            return chain == 0 ? 0 : ENTRY_SIZE + keyLength(chain) + valueLength(chain);
        }

        /** How many pages an ENTRY takes. */
        int pagesFor(int chain) {
            int rest = keyLength(chain) + valueLength(chain) - (PAGE - FIRST_DATA);
            return rest <= 0 ? 1 : 1 + (rest + PAGE - DATA - 1) / (PAGE - DATA);
        }

        int store(Row key, Row value) {
            int chain = pages.newPage();
            pages.setNumber(chain * PAGE + KEY_LENGTH, key.length());
            pages.setNumber(chain * PAGE + VALUE_LENGTH, value.length());
            page = chain;
            at = FIRST_DATA;
            write(key);
            write(value);
            return chain;
        }

        void free(int chain) {
            int gone = chain;
            for (int i = 0; i < PAGES && gone != 0; i++) {
                int next = pages.number(gone * PAGE);
                pages.freePage(gone);
                gone = next;
            }
        }

        void copyTo(int chain, Row key, Row value) {
            copyKeyTo(chain, key);
            read(value, valueLength(chain));
        }

        void copyKeyTo(int chain, Row key) {
            page = chain;
            at = FIRST_DATA;
            read(key, keyLength(chain));
        }

        /** Below 0, 0 or above 0, as the row is before the chain's KEY, is it, or is behind it. */
        int compare(Row row, int chain) {
            int length = pages.number(chain * PAGE + KEY_LENGTH);
            int both = Math.min(row.length(), length);
            int place = chain;
            int start = FIRST_DATA;
            int done = 0;
            for (int i = 0; i < PAGES && done < both; i++) {
                int n = Math.min(PAGE - start, both - done);
                int difference = row.difference(done, n, pages.bytes(), place * PAGE + start);
                if (difference != 0) {
                    return difference;
                }
                done += n;
                place = pages.number(place * PAGE);
                start = DATA;
            }
            return row.length() - length;
        }

        private void write(Row row) {
            int done = 0;
            for (int i = 0; i < PAGES && done < row.length(); i++) {
                if (at == PAGE) {
                    int next = pages.newPage();
                    pages.setNumber(page * PAGE, next);
                    page = next;
                    at = DATA;
                }
                int n = Math.min(PAGE - at, row.length() - done);
                pages.write(row, done, n, page * PAGE + at);
                at += n;
                done += n;
            }
        }

        private void read(Row row, int length) {
            row.clear();
            for (int i = 0; i < PAGES && row.length() < length; i++) {
                if (at == PAGE) {
                    page = pages.number(page * PAGE);
                    at = DATA;
                }
                int n = Math.min(PAGE - at, length - row.length());
                row.appendFrom(pages.bytes(), page * PAGE + at, n);
                at += n;
            }
        }
    }

    /**
     * The pages of the trees: a level (0: a leaf), how many slots are in use, and the slots. A leaf's
     * slots are chains, another node's are nodes one level lower. KEYS stand in the chains alone: a node
     * is looked at by the least KEY below it.
     */
    private static final class Nodes {
        private static final int LEVEL = 0;
        private static final int COUNT = 2;
        private static final int SLOTS = 4;
        private static final int MOST = (PAGE - SLOTS) / 2;
        private static final int LEAST = MOST / 2;
        // A node of level 4 that is a root would have at least 2 * 7 * 7 * 7 * 7 ENTRIES below it.
        private static final int TOP = 4;

        private final Pages pages;
        private final int[] gathered = new int[2 * MOST];

        Nodes(Pages pages) {
            this.pages = pages;
        }

        int make(int level) {
            int node = pages.newPage();
            pages.setNumber(node * PAGE + LEVEL, level);
            return node;
        }

        int level(int node) {
            return Math.min(pages.number(node * PAGE + LEVEL), TOP);
        }

        int count(int node) {
            return Math.min(pages.number(node * PAGE + COUNT), MOST);
        }

        int slot(int node, int i) {
            return pages.number(node * PAGE + SLOTS + 2 * i);
        }

        /** The chain with the least KEY below a slot of a node of that level. */
        int least(int slot, int level) {
            int first = slot;
            for (int i = 0; i < level; i++) {
                first = pages.number(first * PAGE + SLOTS);
            }
            return first;
        }

        boolean isFull(int node) {
            return count(node) == MOST;
        }

        boolean isSparse(int node) {
            return count(node) < LEAST;
        }

        void insert(int node, int i, int slot) {
            int count = count(node);
            if (i < 0 || i > count || count >= MOST) {
                return;
            }
            for (int j = count; j > i; j--) {
                setSlot(node, j, slot(node, j - 1));
            }
            setSlot(node, i, slot);
            setCount(node, count + 1);
        }

        void delete(int node, int i) {
            int count = count(node);
            if (i < 0 || i >= count) {
                return;
            }
            for (int j = i; j < count - 1; j++) {
                setSlot(node, j, slot(node, j + 1));
            }
            setCount(node, count - 1);
        }

        void setSlot(int node, int i, int slot) {
            pages.setNumber(node * PAGE + SLOTS + 2 * i, slot);
        }

        /** The upper half of the slots goes to a new node, which is the answer. */
        int split(int node) {
            int right = make(level(node));
            share(node, right, count(node) / 2);
            return right;
        }

        /** Two neighbours become one, if one can hold all: whether they did. */
        boolean merge(int left, int right) {
            int all = count(left) + count(right);
            if (all > MOST) {
                share(left, right, all / 2);
                return false;
            }
            share(left, right, all);
            pages.freePage(right);
            return true;
        }

        private void share(int left, int right, int toLeft) {
            int ofLeft = count(left);
            int all = ofLeft + count(right);
            for (int i = 0; i < all; i++) {
                gathered[i] = i < ofLeft ? slot(left, i) : slot(right, i - ofLeft);
            }
            for (int i = 0; i < toLeft; i++) {
                setSlot(left, i, gathered[i]);
            }
            for (int i = toLeft; i < all; i++) {
                setSlot(right, i - toLeft, gathered[i]);
            }
            setCount(left, toLeft);
            setCount(right, all - toLeft);
        }

        private void setCount(int node, int count) {
            pages.setNumber(node * PAGE + COUNT, count);
        }
    }

    /** The TREES, and the path from the root to the place in a leaf that was looked for last. */
    private static final class Trees {
        private final Pages pages;
        private final Nodes nodes;
        private final Chains chains;
        private final int[] pathNode = new int[Nodes.TOP + 2];
        private final int[] pathSlot = new int[Nodes.TOP + 2];
        private int top = 0;

        Trees(Pages pages, Nodes nodes, Chains chains) {
            this.pages = pages;
            this.nodes = nodes;
            this.chains = chains;
        }

        boolean has(int t) {
            return t >= 0 && t < MOST_TREES && root(t) != 0;
        }

        int root(int t) {
            return pages.number(ROOTS + 4 * t);
        }

        int entries(int t) {
            return pages.number(ROOTS + 4 * t + 2);
        }

        int leastUnused() {
            for (int t = 0; t < MOST_TREES; t++) {
                if (!has(t)) {
                    return t;
                }
            }
            return MOST_TREES;
        }

        void addTree(int t) {
            setRoot(t, nodes.make(0));
            pages.addTo(TREE_COUNT, 1);
        }

        /** A TREE goes with all its pages: how many ENTRIES it had. */
        int dropTree(int t) {
            int entries = entries(t);
            int root = root(t);
            free(root, nodes.level(root));
            setRoot(t, 0);
            pages.addTo(ROOTS + 4 * t + 2, -entries);
            pages.addTo(TREE_COUNT, -1);
            return entries;
        }

        /** The path leads to where a KEY is, or would come in. */
        void descend(int t, Row key) {
            int node = root(t);
            top = nodes.level(node);
            for (int level = top; level > 0; level--) {
                pathNode[level] = node;
                pathSlot[level] = Math.max(rank(node, key, true) - 1, 0);
                node = nodes.slot(node, pathSlot[level]);
            }
            pathNode[0] = node;
            pathSlot[0] = rank(node, key, false);
        }

        /** The path leads there: the chain of the ENTRY with that KEY, 0 if there is none. */
        int lookUp(int t, Row key) {
            descend(t, key);
            int i = pathSlot[0];
            if (i >= nodes.count(pathNode[0])) {
                return 0;
            }
            int chain = nodes.slot(pathNode[0], i);
            return chains.compare(key, chain) == 0 ? chain : 0;
        }

        boolean leadsTo(int node, int i) {
            return pathNode[0] == node && pathSlot[0] == i;
        }

        /** The chain of the first ENTRY from a KEY on, or behind it; 0 if there is none. */
        int firstFrom(int t, Row key, boolean after) {
            descend(t, key);
            int leaf = pathNode[0];
            int i = after ? rank(leaf, key, true) : pathSlot[0];
            if (i < nodes.count(leaf)) {
                return nodes.slot(leaf, i);
            }
            for (int level = 1; level <= top; level++) {
                int next = pathSlot[level] + 1;
                if (next < nodes.count(pathNode[level])) {
                    return nodes.least(nodes.slot(pathNode[level], next), level);
                }
            }
            return 0;
        }

        /** Instead of the ENTRY that was looked up last. */
        void replaceHere(Row key, Row value) {
            int old = nodes.slot(pathNode[0], pathSlot[0]);
            pages.addTo(SIZE_SUM, -chains.size(old));
            chains.free(old);
            int chain = chains.store(key, value);
            pages.addTo(SIZE_SUM, chains.size(chain));
            nodes.setSlot(pathNode[0], pathSlot[0], chain);
        }

        /** Where the KEY was looked up last. */
        void insertHere(int t, Row key, Row value) {
            int chain = chains.store(key, value);
            pages.addTo(SIZE_SUM, chains.size(chain));
            pages.addTo(ROOTS + 4 * t + 2, 1);
            insertSlot(t, chain);
        }

        /** The ENTRY that was looked up last. */
        void deleteHere(int t) {
            int old = nodes.slot(pathNode[0], pathSlot[0]);
            pages.addTo(SIZE_SUM, -chains.size(old));
            pages.addTo(ROOTS + 4 * t + 2, -1);
            chains.free(old);
            nodes.delete(pathNode[0], pathSlot[0]);
            mendPath();
            lowerRoot(t);
        }

        private void setRoot(int t, int node) {
            pages.setNumber(ROOTS + 4 * t, node);
        }

        /** How many slots of a node begin before a KEY (or at it, too). */
        private int rank(int node, Row key, boolean orAt) {
            int level = nodes.level(node);
            int low = 0;
            int high = nodes.count(node);
            for (int i = 0; i < Nodes.MOST && low < high; i++) {
                int middle = (low + high) / 2;
                int order = chains.compare(key, nodes.least(nodes.slot(node, middle), level));
                if (order > 0 || order == 0 && orAt) {
                    low = middle + 1;
                } else {
                    high = middle;
                }
            }
            return low;
        }

        private void insertSlot(int t, int chain) {
            int slot = chain;
            int i = pathSlot[0];
            for (int level = 0; level <= top; level++) {
                int node = pathNode[level];
                if (!nodes.isFull(node)) {
                    nodes.insert(node, i, slot);
                    return;
                }
                int right = nodes.split(node);
                int ofLeft = nodes.count(node);
                if (i <= ofLeft) {
                    nodes.insert(node, i, slot);
                } else {
                    nodes.insert(right, i - ofLeft, slot);
                }
                slot = right;
                i = pathSlot[level + 1] + 1;
            }
            raiseRoot(t, slot);
        }

        private void raiseRoot(int t, int right) {
            int root = nodes.make(top + 1);
            nodes.insert(root, 0, root(t));
            nodes.insert(root, 1, right);
            setRoot(t, root);
        }

        /** Nodes on the path that are too sparse are merged with a neighbour, or share its slots. */
        private void mendPath() {
            for (int level = 0; level < top && nodes.isSparse(pathNode[level]); level++) {
                int parent = pathNode[level + 1];
                int i = Math.max(pathSlot[level + 1] - 1, 0);
                if (nodes.merge(nodes.slot(parent, i), nodes.slot(parent, i + 1))) {
                    nodes.delete(parent, i + 1);
                }
            }
        }

        private void lowerRoot(int t) {
            int root = root(t);
            if (nodes.level(root) > 0 && nodes.count(root) == 1) {
                setRoot(t, nodes.slot(root, 0));
                pages.freePage(root);
            }
        }

        private void free(int node, int level) {
            int count = nodes.count(node);
            for (int i = 0; i < count; i++) {
                int slot = nodes.slot(node, i);
                if (level > 0) {
                    free(slot, level - 1);
                } else {
                    pages.addTo(SIZE_SUM, -chains.size(slot));
                    chains.free(slot);
                }
            }
            pages.freePage(node);
        }
    }

    /** Counts what is wrong in the pages; bounded by the pages, however wrong they are. */
    private static final class Checker {
        private final Pages pages;
        private final Nodes nodes;
        private final Chains chains;
        private final Trees trees;
        private final boolean[] claimed = new boolean[PAGES];
        private final Row last = new Row();
        private int wrong = 0;
        private int entries = 0;
        private int size = 0;

        Checker(Pages pages, Nodes nodes, Chains chains, Trees trees) {
            this.pages = pages;
            this.nodes = nodes;
            this.chains = chains;
            this.trees = trees;
        }

        int faults() {
            wrong = 0;
            size = 0;
            int count = 0;
            forgetClaims();
            expect(pages.number(USED) == pages.used());
            claimFree();
            for (int t = 0; t < MOST_TREES; t++) {
                entries = 0;
                last.clear();
                if (trees.has(t)) {
                    int root = trees.root(t);
                    walk(t, root, nodes.level(root));
                    count++;
                }
                expect(entries == trees.entries(t));
            }
            expect(count == pages.number(TREE_COUNT));
            expect(size == pages.number(SIZE_SUM) && size <= MOST_SIZE);
            expectAllClaimed();
            return wrong;
        }

        private void expect(boolean right) {
            if (!right) {
                wrong++;
            }
        }

        private void forgetClaims() {
            for (int page = 0; page < PAGES; page++) {
                claimed[page] = false;
            }
        }

        /** A page is in use behind the head and nobody else's: whether it is. */
        private boolean claim(int page) {
            boolean right = page >= HEAD_PAGES && page < HEAD_PAGES + pages.used() && !claimed[page];
            expect(right);
            if (right) {
                claimed[page] = true;
            }
            return right;
        }

        private void expectAllClaimed() {
            int end = HEAD_PAGES + pages.used();
            for (int page = HEAD_PAGES; page < end; page++) {
                expect(claimed[page]);
            }
        }

        private void claimFree() {
            expect(claimChain(pages.number(FREE_FIRST)) == pages.number(FREE_COUNT));
        }

        /** How many pages that were nobody's follow one another from here on. */
        private int claimChain(int first) {
            int page = first;
            int count = 0;
            for (int i = 0; i < PAGES && page != 0; i++) {
                if (!claim(page)) {
                    return count;
                }
                count++;
                page = pages.number(page * PAGE);
            }
            return count;
        }

        private void walk(int t, int node, int level) {
            if (!claim(node)) {
                return;
            }
            boolean isRoot = node == trees.root(t);
            int count = nodes.count(node);
            expect(pages.number(node * PAGE + Nodes.COUNT) == count);
            expect(pages.number(node * PAGE + Nodes.LEVEL) == level);
            expect(isRoot ? level == 0 || count > 1 : !nodes.isSparse(node));
            for (int i = 0; i < count; i++) {
                if (level > 0) {
                    walk(t, nodes.slot(node, i), level - 1);
                } else {
                    examine(t, node, i);
                }
            }
        }

        /** The ENTRY in a leaf's slot: its chain, behind the one before it, where it is looked for. */
        private void examine(int t, int leaf, int i) {
            int chain = nodes.slot(leaf, i);
            int keyLength = chains.keyLength(chain);
            expect(keyLength >= 1 && keyLength <= LONGEST && chains.valueLength(chain) <= LONGEST);
            expect(claimChain(chain) == chains.pagesFor(chain));
            expect(chains.compare(last, chain) < 0);
            chains.copyKeyTo(chain, last);
            trees.descend(t, last);
            expect(trees.leadsTo(leaf, i));
            entries++;
            size += chains.size(chain);
        }
    }
}
