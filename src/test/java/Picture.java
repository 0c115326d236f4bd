/** All that the face can tell of a store, as a text: two stores of one picture are the same. It uses the store up. */
final class Picture {
    private static final int WHOLE = 64;

    private Picture() {
    }

    static String of(KeyStore x) {
        StringBuilder text = new StringBuilder();
        for (int what = 0; what <= 73; what++) {
            if (what != 9) {
                text.append(x.told(what)).append(' ');
            }
        }
        text.append(rows(x));
        if (x.told(0) == 1) {
            appendEntries(x, text);
        }
        return text.toString();
    }

    /** FOUND, then THE KEY and THE VALUE, which are put in a TREE of their own to be seen. */
    static String rows(KeyStore x) {
        StringBuilder text = new StringBuilder("FOUND ");
        appendFound(x, text);
        if (x.told(0) == 1 && (x.told(1) == 1 || x.told(3) < 64)) {
            appendRows(x, text);
        }
        return text.toString();
    }

    private static void appendFound(KeyStore x, StringBuilder text) {
        if (x.told(7) == 0) {
            text.append("none ");
            return;
        }
        for (int what = 0; what <= 1; what++) {
            int length = x.told(7 + what);
            text.append(length).append(" bytes ");
            for (int from = 0; from < length; from += length <= WHOLE ? 8 : length / 4) {
                text.append(Long.toHexString(x.found(what, from))).append(' ');
            }
            text.append(Long.toHexString(x.found(what, length - 1))).append(' ');
        }
    }

    private static void appendRows(KeyStore x, StringBuilder text) {
        boolean opened = x.told(1) == 0;
        if (opened) {
            x.begin();
        }
        boolean noKey = x.told(5) == 0;
        text.append(noKey ? "no KEY, " : "THE KEY, ");
        if (noKey) {
            x.key(0, 1);
        }
        int t = x.tree();
        x.put(t);
        x.seek(t, false);
        appendFound(x, text);
        x.drop(t);
        if (opened) {
            x.rollback();
        }
    }

    private static void appendEntries(KeyStore x, StringBuilder text) {
        for (int t = 0; t < 64; t++) {
            int entries = x.told(10 + t);
            if (entries > 0) {
                x.key(0, 0);
            }
            for (int i = 0; i < entries && x.seek(t, true); i++) {
                text.append(t).append(": ");
                appendFound(x, text);
                x.take();
            }
        }
    }
}
