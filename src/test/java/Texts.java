import java.nio.charset.StandardCharsets;

/** Texts for tests, and how they come to the tape. */
final class Texts {
    /** No sun below floor 9, no wind: nothing dries but on floor 9. */
    static final String STILL = day("90");
    /** A COURT by which an ITEM can be seen: see itemOf. */
    static final String EIGHT_LINES_ONE_PIECE = STILL + linesOf(8) + "piece red 0 0 1;";

    private Texts() {
    }

    /** A day whose QUARTERS are all alike. */
    static String day(String quarter) {
        return "day" + (" " + quarter).repeat(24) + ";";
    }

    /** A day whose QUARTERS are all alike, but for one. */
    static String dayBut(int q, String that, String others) {
        return "day" + (" " + others).repeat(q) + " " + that + (" " + others).repeat(23 - q) + ";";
    }

    /** Lines over one another, line i on floor i, 9 yards wide. */
    static String linesOf(int n) {
        StringBuilder text = new StringBuilder();
        for (int i = 0; i < n; i++) {
            text.append("line ").append(i).append(" 0 9;");
        }
        return text.toString();
    }

    static void feed(CourtWash x, String text) {
        byte[] bytes = text.getBytes(StandardCharsets.ISO_8859_1);
        for (int at = 0; at < bytes.length; at += 8) {
            int n = Math.min(8, bytes.length - at);
            x.feed(packed(bytes, at, n), n);
        }
    }

    static long packed(byte[] bytes, int at, int n) {
        long w = 0;
        for (int i = 0; i < n; i++) {
            w = w << 8 | bytes[at + i] & 255;
        }
        return w;
    }

    static int read(CourtWash x, String text) {
        feed(x, text);
        return x.court();
    }

    static CourtWash courtOf(String text) {
        CourtWash x = new CourtWash();
        int lines = read(x, text);
        if (lines < 1) {
            throw new IllegalStateException("a test's text is not read: " + lines + " " + text);
        }
        return x;
    }

    /** Makes a ROW of ints with these ITEMS. */
    static void rowOf(CourtWash x, int row, int... items) {
        rowOfLane(x, row, 2, items);
    }

    static void rowOfLane(CourtWash x, int row, int lane, int... items) {
        x.row(row, lane, items.length);
        for (int i = 0; i < items.length; i++) {
            x.set(row, i, items[i]);
        }
    }

    /** ITEMS can be seen by what is laid by them: one of -1 to 7, where the COURT has eight LINES and one PIECE. */
    static int itemOf(CourtWash x, int row, int i) {
        int answer = x.lay(row, i);
        return answer == 0 ? -1 : answer == 1 ? x.piece(0, 1) : answer;
    }

    /** HANGS PIECES 0 on each on a LINE; -1: that one stays down. */
    static void hang(CourtWash x, int... lines) {
        for (int p = 0; p < lines.length; p++) {
            if (lines[p] >= 0 && x.hang(p, lines[p]) < 0) {
                throw new IllegalStateException("a test's piece does not hang: " + p);
            }
        }
    }
}
