import java.nio.charset.StandardCharsets;

/** Texts for tests, and how they come to the tape. */
final class Texts {
    /** No sun below floor 9, no wind: nothing dries but on floor 9. */
    static final String STILL = day("90");

    private Texts() {
    }

    /** A day whose QUARTERS are all alike. */
    static String day(String quarter) {
        return "day" + (" " + quarter).repeat(24) + ";";
    }

    static void feed(CourtWash x, String text) {
        byte[] bytes = text.getBytes(StandardCharsets.ISO_8859_1);
        for (int at = 0; at < bytes.length; at += 8) {
            int n = Math.min(8, bytes.length - at);
            x.feed(packed(bytes, at, n), n);
        }
    }

    static long packed(byte[] bytes, int at, int n) {
        long w = 0;
        for (int i = 0; i < n; i++) {
            w = w << 8 | bytes[at + i] & 255;
        }
        return w;
    }

    static int read(CourtWash x, String text) {
        feed(x, text);
        return x.court();
    }

    static CourtWash courtOf(String text) {
        CourtWash x = new CourtWash();
        int lines = read(x, text);
        if (lines < 1) {
            throw new IllegalStateException("a test's text is not read: " + lines + " " + text);
        }
        return x;
    }

    /** Makes a ROW of ints with these ITEMS. */
    static void rowOf(CourtWash x, int row, int... items) {
        x.row(row, 2, items.length);
        for (int i = 0; i < items.length; i++) {
            x.set(row, i, items[i]);
        }
    }
}
