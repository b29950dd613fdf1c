/** Types texts, as the tests write them. */
final class Tell {
    private Tell() { }

    /** Up to 8 bytes as type() takes them. */
    static long bytes(String part) {
        long v = 0;
        for (int k = 0; k < part.length(); k++) {
            v = v << 8 | part.charAt(k) & 255;
        }
        return v;
    }

    static int type(FallowFerry x, String text) {
        int has = x.count(4);
        for (int k = 0; k < text.length(); k += 8) {
            String part = text.substring(k, Math.min(k + 8, text.length()));
            has = x.type(bytes(part), part.length());
        }
        return has;
    }

    static int river(FallowFerry x, String text) {
        type(x, text);
        return x.river();
    }

    static FallowFerry ferry(String text) {
        FallowFerry x = new FallowFerry();
        if (river(x, text) < 0) {
            throw new IllegalArgumentException("the test's own text is not well: " + text);
        }
        return x;
    }
}
