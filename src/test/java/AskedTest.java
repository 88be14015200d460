/** KINDS in Terms 3, ASKS and THE TRACE in Terms 4, and promises 23 to 28: kind, as, ask, trace, count, status. */
public final class AskedTest {
    private static final int BAD = CourtWash.BAD, NONE = CourtWash.NONE;
    private static final int LEAST = Integer.MIN_VALUE, MOST = Integer.MAX_VALUE;
    private static final String[] SORTS = {"red", "black", "wool", "sheet", "sock"};
    private static final Check CHECK = new Check("AskedTest");

    public static void main(String[] args) {
        CHECK.words("KINDS of PIECES: 0 PIECE; 1 RED, a PIECE; 2 BLACK, a RED one; 3 WOOL, a PIECE; 4 SHEET, a PIECE; 5 SOCK, a WOOL one.",
                AskedTest::kindsAreOfOneAnother);
        CHECK.words("The KIND of a PIECE, as told (1 to 5). BAD.", AskedTest::kindsAreTold);
        CHECK.words("A PIECE is taken as one of a KIND (0 .. 5): the PIECE's number.", AskedTest::piecesAreTakenAsKinds);
        CHECK.words("BAD; KIND: it is no such one.", AskedTest::takingIsRefused);
        CHECK.words("ASKS of PIECES, by BODIES, each of which leaves its number in THE TRACE as it begins (the first 16):", AskedTest::bodiesLeaveTheirNumbers);
        CHECK.words("(Of an ask the BODY told for the KIND begins, else that of the nearest KIND that it is, too, else the one that is lent;",
                AskedTest::theNearestBodyBegins);
        CHECK.words("SIZE, MARK within others are asked of the same PIECE anew.)", AskedTest::withinOthersAllIsAskedAnew);
        CHECK.words("0 SIZE: 10 lent to all PIECES: WET. 11 of RED ones: what 10 gives, and MARK. 12 of BLACK ones: 0 less what 11 gives. 13 of WOOL ones: what 10 gives, less YARDS. 14 of SOCKS: twice what 13 gives (asked once).",
                AskedTest::sizesAreAsked);
        CHECK.words("1 MARK: 20 lent to all PIECES: its number. 21 of RED ones: what 20 gives, and YARDS. 22 of SHEETS: what 20 gives, less SIZE. 23 of SOCKS: what 20 gives, and 10 times SIZE. 24 of BLACK ones: what 21 gives, and 1000.",
                AskedTest::marksAreAsked);
        CHECK.words("An ASK (0, 1) of a PIECE. BAD.", AskedTest::askingIsRefused);
        CHECK.words("THE TRACE is empty ahead of it (where that is refused it stays).", AskedTest::theTraceIsEmptyAheadOfAnAsk);
        CHECK.words("Number i of THE TRACE; NONE.", AskedTest::theTraceEnds);
        CHECK.words("How many: 0 ROWS, 1 LINES, 2 RIGHTS, 3 PIECES, 4 PIECES that HANG, 5 STAINED ones, 6 QUARTERS gone, 7 bytes on the tape. BAD.",
                AskedTest::countsAreTold);
        CHECK.words("Of the latest call with a ROW, or as(), that was not BAD, STATE, FULL: the number of its FINDING;", AskedTest::statusIsOfTheLatest);
        CHECK.words("0: it had none, or there was none.", AskedTest::statusIsZero);
        CHECK.end();
    }

    /** One PIECE of each SORT: KIND of PIECE p is p and 1. WET 40 and on, YARDS 2 and on. */
    private static CourtWash courtOfSorts() {
        StringBuilder text = new StringBuilder(Texts.STILL + "line 0 0 9;");
        for (int i = 0; i < SORTS.length; i++) {
            text.append("piece ").append(SORTS[i]).append(" 0 ").append(40 + i).append(" ").append(2 + i).append(";");
        }
        return Texts.courtOf(text.toString());
    }

    private static void kindsAreOfOneAnother() {
        CourtWash x = courtOfSorts();
        int[][] isOne = {{0, 1}, {0, 1, 2}, {0, 3}, {0, 4}, {0, 3, 5}};
        for (int p = 0; p < 5; p++) {
            for (int kind = 0; kind < 6; kind++) {
                boolean is = false;
                for (int one : isOne[p]) {
                    is |= one == kind;
                }
                CHECK.due("a " + SORTS[p] + " one as " + kind, x.as(p, kind), is ? p : Finding.KIND);
            }
        }
    }

    private static void kindsAreTold() {
        CourtWash x = new CourtWash();
        CHECK.due("no court", x.kind(0), BAD);
        x = courtOfSorts();
        for (int p = 0; p < 5; p++) {
            CHECK.due("kind of " + p, x.kind(p), p + 1);
        }
        for (int p : new int[] {-1, 5, LEAST, MOST}) {
            CHECK.due("kind of " + p, x.kind(p), BAD);
        }
    }

    private static void piecesAreTakenAsKinds() {
        CourtWash x = courtOfSorts();
        for (int p = 0; p < 5; p++) {
            CHECK.due("as a piece", x.as(p, 0), p);
            CHECK.due("as what it is", x.as(p, p + 1), p);
            CHECK.due("status", x.status(), 0);
        }
        CourtWash ten = Texts.courtOf(Texts.STILL + "line 0 0 9;" + "piece sock 0 0 1;".repeat(10));
        CHECK.due("the last piece", ten.as(9, 3), 9);
        CHECK.due("the last piece is no red one", ten.as(9, 1), Finding.KIND);
    }

    private static void takingIsRefused() {
        CourtWash x = new CourtWash();
        CHECK.due("no court", x.as(0, 0), BAD);
        x = courtOfSorts();
        CHECK.due("a red one as a black one", x.as(0, 2), Finding.KIND);
        CHECK.due("status of that", x.status(), 3);
        int[][] wrong = {{5, 0}, {-1, 0}, {0, -1}, {0, 6}, {LEAST, 0}, {MOST, 0}, {0, LEAST}, {0, MOST}, {5, 6}};
        for (int[] w : wrong) {
            CHECK.due("as " + w[0] + " " + w[1], x.as(w[0], w[1]), BAD);
        }
        CHECK.due("BAD leaves status", x.status(), 3);
        CHECK.due("as a piece", x.as(0, 0), 0);
        CHECK.due("status of that", x.status(), 0);
    }

    private static void bodies(CourtWash x, int piece, int what, int... numbers) {
        x.ask(piece, what);
        for (int i = 0; i < 18; i++) {
            CHECK.due("trace " + i + " of " + piece + " " + what, x.trace(i), i < numbers.length ? numbers[i] : NONE);
        }
    }

    private static void bodiesLeaveTheirNumbers() {
        CourtWash x = courtOfSorts();
        bodies(x, 0, 0, 11, 10, 21, 20);
        bodies(x, 0, 1, 21, 20);
        bodies(x, 1, 0, 12, 11, 10, 24, 21, 20);
        bodies(x, 1, 1, 24, 21, 20);
        bodies(x, 2, 0, 13, 10);
        bodies(x, 2, 1, 20);
        bodies(x, 3, 0, 10);
        bodies(x, 3, 1, 22, 20, 10);
        bodies(x, 4, 0, 14, 13, 10);
        bodies(x, 4, 1, 23, 20, 14, 13, 10);
    }

    private static void theNearestBodyBegins() {
        CourtWash x = courtOfSorts();
        int[] sizes = {11, 12, 13, 10, 14};
        int[] marks = {21, 24, 20, 22, 23};
        for (int p = 0; p < 5; p++) {
            x.ask(p, 0);
            CHECK.due("size of " + SORTS[p], x.trace(0), sizes[p]);
            x.ask(p, 1);
            CHECK.due("mark of " + SORTS[p], x.trace(0), marks[p]);
        }
    }

    private static void withinOthersAllIsAskedAnew() {
        CourtWash x = courtOfSorts();
        CHECK.due("the mark in a black one's size is a black one's", x.ask(1, 0), -(41 + 1004));
        CHECK.due("it begins fourth", x.trace(3), 24);
        CHECK.due("the size in a sock's mark is a sock's", x.ask(4, 1), 4 + 10 * 76);
        CHECK.due("it begins third", x.trace(2), 14);
        CHECK.due("the size in a sheet's mark is lent", x.ask(3, 1), 3 - 43);
        CHECK.due("it begins third", x.trace(2), 10);
    }

    /** Ten PIECES of one SORT, WET 0 and 99, YARDS 1 and 9. */
    private static CourtWash courtOf(String sort) {
        return Texts.courtOf(Texts.STILL + "line 0 0 9;piece " + sort + " 0 0 9;" + ("piece " + sort + " 0 50 5;").repeat(8)
                + "piece " + sort + " 0 99 1;");
    }

    private static void sizesAreAsked() {
        int[] wets = {0, 50, 99};
        int[] yards = {9, 5, 1};
        int[] numbers = {0, 4, 9};
        for (int i = 0; i < 3; i++) {
            int mark = numbers[i] + yards[i];
            int[] sizes = {wets[i] + mark, -(wets[i] + mark + 1000), wets[i] - yards[i], wets[i], 2 * (wets[i] - yards[i])};
            for (int s = 0; s < 5; s++) {
                CHECK.due("size of " + SORTS[s] + " " + numbers[i], courtOf(SORTS[s]).ask(numbers[i], 0), sizes[s]);
            }
        }
        CourtWash x = Texts.courtOf(Texts.day("95") + "line 0 0 9;piece red 0 50 3;");
        x.hang(0, 0);
        x.quarters(2);
        CHECK.due("by what is wet now", x.ask(0, 0), 43);
    }

    private static void marksAreAsked() {
        int[] wets = {0, 50, 99};
        int[] yards = {9, 5, 1};
        int[] numbers = {0, 4, 9};
        for (int i = 0; i < 3; i++) {
            int[] marks = {numbers[i] + yards[i], numbers[i] + yards[i] + 1000, numbers[i], numbers[i] - wets[i],
                numbers[i] + 20 * (wets[i] - yards[i])};
            for (int s = 0; s < 5; s++) {
                CHECK.due("mark of " + SORTS[s] + " " + numbers[i], courtOf(SORTS[s]).ask(numbers[i], 1), marks[s]);
            }
        }
    }

    private static void askingIsRefused() {
        CourtWash x = new CourtWash();
        CHECK.due("no court", x.ask(0, 0), BAD);
        x = courtOfSorts();
        int[][] wrong = {{5, 0}, {-1, 0}, {0, 2}, {0, -1}, {LEAST, 0}, {MOST, 1}, {0, LEAST}, {0, MOST}};
        for (int[] w : wrong) {
            CHECK.due("ask " + w[0] + " " + w[1], x.ask(w[0], w[1]), BAD);
        }
        CHECK.due("the first", x.ask(0, 0), 42);
        CHECK.due("the last", x.ask(4, 1), 764);
    }

    private static void theTraceIsEmptyAheadOfAnAsk() {
        CourtWash x = courtOfSorts();
        x.ask(1, 0);
        int[][] wrong = {{5, 0}, {-1, 0}, {0, 2}, {0, -1}};
        for (int[] w : wrong) {
            x.ask(w[0], w[1]);
            CHECK.due("the first stays", x.trace(0), 12);
            CHECK.due("the last stays", x.trace(5), 20);
        }
        x.as(4, 3);
        x.as(4, 4);
        x.kind(4);
        CHECK.due("it stays in other calls", x.trace(0), 12);
        x.ask(3, 0);
        CHECK.due("the first is another", x.trace(0), 10);
        for (int i = 1; i < 7; i++) {
            CHECK.due("nothing of the old one is left", x.trace(i), NONE);
        }
        for (int again = 0; again < 20; again++) {
            x.ask(2, 0);
            CHECK.due("again and again", x.trace(0) * 100 + x.trace(1), 1310);
            CHECK.due("its end", x.trace(2), NONE);
        }
    }

    private static void theTraceEnds() {
        CourtWash x = new CourtWash();
        for (int i : new int[] {0, 1, 15, 16, -1, LEAST, MOST}) {
            CHECK.due("nothing was asked, " + i, x.trace(i), NONE);
        }
        x = courtOfSorts();
        x.ask(1, 0);
        int[] trace = {12, 11, 10, 24, 21, 20, NONE};
        for (int i = 0; i < trace.length; i++) {
            CHECK.due("number " + i, x.trace(i), trace[i]);
        }
        for (int i : new int[] {-1, 15, 16, 17, LEAST, MOST}) {
            CHECK.due("number " + i, x.trace(i), NONE);
        }
    }

    private static void counts(String what, CourtWash x, int... counts) {
        for (int i = 0; i < counts.length; i++) {
            CHECK.due(what + ", count " + i, x.count(i), counts[i]);
        }
    }

    private static void countsAreTold() {
        CourtWash x = new CourtWash();
        counts("a new object", x, 0, 0, 0, 0, 0, 0, 0, 0);
        Texts.read(x, Texts.STILL + "line 1 0 9;line 0 0 9;line 0 1 9;right 2 5 5 0;right 2 5 5 1;"
                + "piece red 0 50 1;piece wool 0 5 1;piece sock 0 5 1;piece red 0 5 1;");
        counts("a new court", x, 0, 3, 2, 4, 0, 0, 0, 0);
        x.row(2, 0, 0);
        Texts.hang(x, 0, 1, 1);
        x.quarters(6);
        x.take(2);
        Texts.feed(x, "line");
        counts("a used one", x, 1, 3, 2, 4, 2, 2, 6, 4);
        for (int row = 0; row < 8; row++) {
            x.row(row, 2, 40);
        }
        x.quarters(96);
        Texts.feed(x, " ".repeat(496));
        counts("full", x, 8, 3, 2, 4, 2, 2, 102, 500);
        x.drop(0);
        x.court();
        counts("less", x, 7, 3, 2, 4, 2, 2, 102, 0);
        for (int what : new int[] {-1, 8, LEAST, MOST}) {
            CHECK.due("count " + what, x.count(what), BAD);
        }
    }

    /** status() is made 3 by as(), then something is called. */
    private static void statusThen(String what, CourtWash x, Runnable call, int status) {
        CHECK.due("as", x.as(0, 4), Finding.KIND);
        CHECK.due("status of as", x.status(), 3);
        call.run();
        CHECK.due("status after " + what, x.status(), status);
        CHECK.due("status again after " + what, x.status(), status);
    }

    private static void statusIsOfTheLatest() {
        CourtWash x = courtOfSorts();
        statusThen("row: SIZE", x, () -> x.row(0, 0, -1), 4);
        statusThen("row: BAD", x, () -> x.row(0, 0, 41), 3);
        statusThen("set: NULL", x, () -> x.set(0, 0, 0), 1);
        statusThen("set: BAD", x, () -> x.set(8, 0, 0), 3);
        x.row(0, 0, 1);
        x.row(1, 1, 5);
        statusThen("set: PLACE", x, () -> x.set(0, 1, 0), 2);
        statusThen("copy: NULL", x, () -> x.copy(0, 0, 2, 0, 0), 1);
        statusThen("copy: STORE", x, () -> x.copy(0, 0, 1, 0, 0), 5);
        statusThen("copy: PLACE", x, () -> x.copy(0, 0, 0, 0, 2), 2);
        statusThen("copy: BAD", x, () -> x.copy(0, 0, 9, 0, 2), 3);
        statusThen("drop: NULL", x, () -> x.drop(2), 1);
        statusThen("drop: BAD", x, () -> x.drop(8), 3);
        statusThen("lay: NULL", x, () -> x.lay(2, 0), 1);
        statusThen("lay: PLACE", x, () -> x.lay(0, 0), 2);
        statusThen("lay: BAD", x, () -> x.lay(8, 0), 3);
        statusThen("lay: FULL", x, () -> x.lay(1, 0), 3);
        statusThen("rings: NULL", x, () -> x.rings(2, 2, 0), 1);
        statusThen("rings: PLACE", x, () -> x.rings(0, 2, 0), 2);
        statusThen("rings: BAD", x, () -> x.rings(0, 1, 0), 3);
        statusThen("rings: an item that is BAD", x, () -> x.rings(1, 2, 0), 3);
        statusThen("as: BAD", x, () -> x.as(0, 6), 3);
        CourtWash y = new CourtWash();
        y.drop(0);
        y.lay(0, 0);
        y.rings(0, 2, 0);
        CHECK.due("status after lay and rings: STATE", y.status(), 1);
    }

    private static void statusIsZero() {
        CHECK.due("a new object", new CourtWash().status(), 0);
        CourtWash x = courtOfSorts();
        statusThen("row", x, () -> x.row(0, 0, 5), 0);
        statusThen("set", x, () -> x.set(0, 0, -1), 0);
        statusThen("copy", x, () -> x.copy(0, 0, 0, 1, 4), 0);
        statusThen("copy again", x, () -> x.copy(0, 0, 0, 1, 4), 0);
        for (int i = 1; i < 5; i++) {
            x.set(0, i, -1);
        }
        statusThen("lay", x, () -> x.lay(0, 0), 0);
        statusThen("drop", x, () -> x.drop(0), 0);
        statusThen("as", x, () -> x.as(0, 1), 0);
        statusThen("what is no call with a row", x, () -> {
            x.feed(' ', 1);
            x.court();
            x.fault();
            x.hang(0, 0);
            x.hang(9, 0);
            x.hang(0, 0);
            x.take(0);
            x.quarters(1);
            x.quarters(0);
            x.piece(0, 0);
            x.line(0, 0);
            x.dry();
            x.plan(1, -1);
            x.whose(0, 0);
            x.sun(0, 0);
            x.rain(1, 1);
            x.image(0);
            x.restore(0);
            x.kind(0);
            x.ask(0, 0);
            x.trace(0);
            x.count(0);
        }, 3);
        Texts.read(x, Texts.STILL + "line 0 0 9;line 1 0 9;piece red 0 0 1;");
        Texts.rowOf(x, 0, 0, 1);
        statusThen("rings", x, () -> x.rings(0, 2, 0), 0);
        x.as(0, 4);
        Texts.read(x, Texts.STILL + "line 0 0 9;");
        CHECK.due("a court leaves it", x.status(), 3);
    }
}
