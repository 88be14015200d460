import java.util.function.Supplier;
import java.util.function.ToIntFunction;

/** Objects that hold something of all that an object can hold, and all that can be seen of an object. */
final class Scene {
    private static final String COURT = Texts.day("23") + "line 4 0 9;line 2 0 3;line 1 1 9;right 2 0 23 5;"
            + "piece red 0 60 2;piece wool 0 40 2;piece sheet 1 20 3;piece sock 5 10 1;piece black 2 60 4;piece wool 0 9 1;";
    /** What makes a COURT of the tape that a scene holds. */
    private static final String REST_OF_TAPE = " 90".repeat(23) + ";line 0 0 9;";

    private Scene() {
    }

    /**
     * LINES 0 to 2 (2 is that of person 5), PIECES 0 to 5: 0 hangs on 0, 1 (STAINED) on 1, 3 on 2, the others do not.
     * IMAGE 0; ROWS 0 (a LINE that is not there), 1 (a RIGHT is in the way), 2 (no room; told twice), 5 (empty),
     * 7 (for RINGS of three); a FAULT, a TRACE, a tape; status() is 5.
     */
    static CourtWash whole() {
        CourtWash x = new CourtWash();
        Texts.read(x, "day 100");
        Texts.read(x, COURT);
        Texts.hang(x, 0, 1);
        x.quarters(2);
        x.image(0);
        x.hang(3, 2);
        x.quarters(3);
        x.ask(3, 1);
        fill(x);
        return x;
    }

    /** The same without a COURT, IMAGE and TRACE. */
    static CourtWash bare() {
        CourtWash x = new CourtWash();
        Texts.read(x, "day 100");
        fill(x);
        return x;
    }

    private static void fill(CourtWash x) {
        Texts.rowOf(x, 0, 0, 1, -1, 2, -1, 3);
        Texts.rowOfLane(x, 1, 0, 0, -1, -1, -1, -1, 2);
        Texts.rowOfLane(x, 2, 1, 1, 1, -1, -1, -1, -1);
        x.row(5, 0, 0);
        Texts.rowOf(x, 7, 2, 0, 1);
        x.copy(0, 0, 1, 0, 1);
        Texts.feed(x, "day 00");
    }

    /** Holds that a call changes nothing that can be seen but status(): its answer, and status() then. */
    static void changesNothing(Check check, String what, Supplier<CourtWash> scene, ToIntFunction<CourtWash> call, int answer, int status) {
        CourtWash x = scene.get();
        check.due(what, call.applyAsInt(x), answer);
        check.due("status of " + what, x.status(), status);
        check.same("all after " + what, seen(x), seen(scene.get()));
    }

    /** Asks some 300 times, and spoils the object. */
    static String seen(CourtWash x) {
        StringBuilder seen = new StringBuilder();
        for (int what = 0; what < 8; what++) {
            put(seen, "count " + what, x.count(what));
        }
        put(seen, "fault", x.fault());
        for (int i = 0; i < 7; i++) {
            put(seen, "trace " + i, x.trace(i));
        }
        putLines(seen, x);
        putPieces(seen, x, 5);
        for (int k = 0; k < 2; k++) {
            put(seen, "restore " + k, x.restore(k));
            put(seen, "gone", x.count(6));
            putPieces(seen, x, 3);
        }
        Texts.feed(x, REST_OF_TAPE);
        put(seen, "tape", x.court());
        put(seen, "its first number", x.sun(0, 0));
        put(seen, "fault of tape", x.fault());
        putRows(seen, x);
        return seen.toString();
    }

    private static void put(StringBuilder seen, String what, int answer) {
        seen.append(what).append(": ").append(answer).append("; ");
    }

    private static void putLines(StringBuilder seen, CourtWash x) {
        for (int l = 0; l < 4; l++) {
            for (int what = 0; what < 6; what++) {
                put(seen, "line " + l + " " + what, x.line(l, what));
            }
            put(seen, "sun " + l, x.sun(l, 0));
        }
    }

    private static void putPieces(StringBuilder seen, CourtWash x, int whats) {
        for (int p = 0; p < 7; p++) {
            for (int what = 0; what < whats; what++) {
                put(seen, "piece " + p + " " + what, x.piece(p, what));
            }
        }
    }

    private static void putRows(StringBuilder seen, CourtWash x) {
        Texts.read(x, Texts.EIGHT_LINES_ONE_PIECE);
        for (int row = 0; row < 8; row++) {
            for (int i = 0; i < 7; i++) {
                put(seen, "item " + row + " " + i, Texts.itemOf(x, row, i));
            }
            put(seen, "lane " + row, x.set(row, 0, 70000));
        }
    }
}
