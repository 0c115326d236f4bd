/** Short steps that many tests take. */
final class Steps {
    private Steps() {
    }

    /** THE KEY becomes the text's characters. */
    static void key(KeyStore x, String text) {
        x.key(0, 0);
        for (int i = 0; i < text.length(); i++) {
            x.key(text.charAt(i), 1);
        }
    }

    /** THE VALUE becomes the text's characters. */
    static void value(KeyStore x, String text) {
        x.value(0, 0);
        for (int i = 0; i < text.length(); i++) {
            x.value(text.charAt(i), 1);
        }
    }

    static boolean put(KeyStore x, int t, String key, String value) {
        key(x, key);
        value(x, value);
        return x.put(t);
    }

    static boolean remove(KeyStore x, int t, String key) {
        key(x, key);
        return x.remove(t);
    }

    /** The VALUE under a KEY, null if there is none. */
    static String get(KeyStore x, int t, String key) {
        key(x, key);
        if (!x.seek(t, false) || !foundText(x, 0).equals(key)) {
            return null;
        }
        return foundText(x, 1);
    }

    /** FOUND's KEY (0) or VALUE (1) as a text. */
    static String foundText(KeyStore x, int what) {
        StringBuilder text = new StringBuilder();
        int length = x.told(7 + what);
        for (int from = 0; from < length; from += 8) {
            long word = x.found(what, from);
            for (int i = Math.min(8, length - from) - 1; i >= 0; i--) {
                text.append((char) (word >>> 8 * i & 255));
            }
        }
        return text.toString();
    }

    /** All ENTRIES (at most 100) of a TREE, in their order, as key=value, and a blank behind each. */
    static String all(KeyStore x, int t) {
        StringBuilder text = new StringBuilder();
        x.key(0, 0);
        for (int i = 0; i < 100 && x.seek(t, true); i++) {
            text.append(foundText(x, 0)).append('=').append(foundText(x, 1)).append(' ');
            x.take();
        }
        return text.toString();
    }

    /** A store with TREE 0 that holds a=1 and b=2, lasting. */
    static KeyStore stored() {
        KeyStore x = new KeyStore();
        x.begin();
        x.tree();
        put(x, 0, "a", "1");
        put(x, 0, "b", "2");
        x.commit();
        return x;
    }

    static KeyStore off() {
        KeyStore x = stored();
        x.begin();
        x.power(2, 0, 0);
        try {
            x.commit();
        } catch (ArithmeticException e) {
            return x;
        }
        throw new AssertionError("power did not fail");
    }
}
