/** Promises 1 and 23 to 28: a new object, kind, as, ask, trace, count, status. */
public final class AskedTest {
    private static final int KIND = -1000013;
    private static final Check CHECK = new Check("AskedTest");
    private static final String[] SORTS = {"red", "black", "wool", "sheet", "sock"};

    public static void main(String[] args) {
        aNewObjectIsEmpty();
        kindsAreTold();
        bodiesAnswer();
        theTraceStays();
        countsAreTold();
        statusIsOfCallsWithRows();
        CHECK.end();
    }

    private static void aNewObjectIsEmpty() {
        CourtWash x = new CourtWash();
        for (int what = 0; what < 8; what++) {
            CHECK.due("count " + what, x.count(what), 0);
        }
        CHECK.due("status", x.status(), 0);
        CHECK.due("fault", x.fault(), 0);
        CHECK.due("trace", x.trace(0), CourtWash.NONE);
        CHECK.due("no court", x.dry(), CourtWash.STATE);
    }

    /** One PIECE of each SORT, WET 40 and on, YARDS 2 and on. */
    private static CourtWash courtOfSorts() {
        StringBuilder text = new StringBuilder(Texts.STILL + "line 0 0 9;");
        for (int i = 0; i < SORTS.length; i++) {
            text.append("piece ").append(SORTS[i]).append(" 0 ").append(40 + i).append(" ").append(2 + i).append(";");
        }
        return Texts.courtOf(text.toString());
    }

    private static void kindsAreTold() {
        CourtWash x = new CourtWash();
        CHECK.due("no court", x.kind(0), CourtWash.BAD);
        CHECK.due("no court", x.as(0, 0), CourtWash.BAD);
        x = courtOfSorts();
        int[] kinds = {1, 2, 3, 4, 5};
        int[] isAll = {0b000011, 0b000111, 0b001001, 0b010001, 0b101001};
        for (int p = 0; p < 5; p++) {
            CHECK.due("kind " + p, x.kind(p), kinds[p]);
            for (int kind = 0; kind < 6; kind++) {
                boolean is = (isAll[p] >> kind & 1) == 1;
                CHECK.due("as " + p + " " + kind, x.as(p, kind), is ? p : KIND);
                CHECK.due("status of that", x.status(), is ? 0 : 3);
            }
        }
        x.as(0, 5);
        int[][] wrong = {{5, 0}, {-1, 0}, {0, -1}, {0, 6}};
        for (int[] w : wrong) {
            CHECK.due("as " + w[0] + " " + w[1], x.as(w[0], w[1]), CourtWash.BAD);
        }
        CHECK.due("BAD leaves status", x.status(), 3);
        CHECK.due("kind 5", x.kind(5), CourtWash.BAD);
        CHECK.due("kind -1", x.kind(-1), CourtWash.BAD);
    }

    private static void asked(CourtWash x, int piece, int what, int answer, int... bodies) {
        CHECK.due("ask " + piece + " " + what, x.ask(piece, what), answer);
        for (int i = 0; i < 17; i++) {
            CHECK.due("trace " + i + " of " + piece + " " + what, x.trace(i), i < bodies.length ? bodies[i] : CourtWash.NONE);
        }
    }

    private static void bodiesAnswer() {
        CourtWash x = courtOfSorts();
        asked(x, 0, 0, 40 + 0 + 2, 11, 10, 21, 20);
        asked(x, 0, 1, 0 + 2, 21, 20);
        asked(x, 1, 0, -(41 + 1 + 3 + 1000), 12, 11, 10, 24, 21, 20);
        asked(x, 1, 1, 1 + 3 + 1000, 24, 21, 20);
        asked(x, 2, 0, 42 - 4, 13, 10);
        asked(x, 2, 1, 2, 20);
        asked(x, 3, 0, 43, 10);
        asked(x, 3, 1, 3 - 43, 22, 20, 10);
        asked(x, 4, 0, 2 * (44 - 6), 14, 13, 10);
        asked(x, 4, 1, 4 + 10 * 2 * (44 - 6), 23, 20, 14, 13, 10);
    }

    private static void theTraceStays() {
        CourtWash x = new CourtWash();
        CHECK.due("no court", x.ask(0, 0), CourtWash.BAD);
        x = courtOfSorts();
        x.ask(2, 0);
        int[][] wrong = {{5, 0}, {-1, 0}, {0, 2}, {0, -1}};
        for (int[] w : wrong) {
            CHECK.due("ask " + w[0] + " " + w[1], x.ask(w[0], w[1]), CourtWash.BAD);
            CHECK.due("the trace stays", x.trace(0), 13);
        }
        x.as(4, 3);
        x.kind(4);
        CHECK.due("it stays", x.trace(1), 10);
        CHECK.due("its end", x.trace(2), CourtWash.NONE);
        CHECK.due("-1", x.trace(-1), CourtWash.NONE);
        CHECK.due("far off", x.trace(Integer.MAX_VALUE), CourtWash.NONE);
        CHECK.due("least", x.trace(Integer.MIN_VALUE), CourtWash.NONE);
    }

    private static void countsAreTold() {
        CourtWash x = Texts.courtOf(Texts.STILL + "line 1 0 9;line 0 0 9;line 0 1 9;right 2 5 5 0;right 2 5 5 1;"
                + "piece red 0 50 1;piece wool 0 5 1;piece sock 0 5 1;piece red 0 5 1;");
        x.row(2, 0, 0);
        x.hang(0, 0);
        x.hang(1, 1);
        x.hang(2, 1);
        x.quarters(6);
        x.take(2);
        Texts.feed(x, "line");
        int[] counts = {1, 3, 2, 4, 2, 2, 6, 4};
        for (int what = 0; what < counts.length; what++) {
            CHECK.due("count " + what, x.count(what), counts[what]);
        }
        CHECK.due("count 8", x.count(8), CourtWash.BAD);
        CHECK.due("count -1", x.count(-1), CourtWash.BAD);
    }

    private static void statusIsOfCallsWithRows() {
        CourtWash x = courtOfSorts();
        x.as(0, 4);
        CHECK.due("of as", x.status(), 3);
        x.hang(0, 0);
        x.hang(9, 0);
        x.take(4);
        x.quarters(1);
        x.dry();
        x.plan(1, -1);
        x.sun(0, 0);
        x.rain(1, 1);
        x.image(0);
        x.restore(0);
        x.ask(0, 0);
        x.court();
        CHECK.due("others leave it", x.status(), 3);
        x.lay(9, 0);
        x.rings(0, 9, 0);
        x.row(0, 9, 0);
        CHECK.due("BAD leaves it", x.status(), 3);
        x.as(0, 0);
        CHECK.due("none", x.status(), 0);
    }
}
