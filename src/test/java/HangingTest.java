/** HANGING in Terms 2, and promises 9, 10, 12 to 14: hang, take, lay, piece, line. */
public final class HangingTest {
    private static final int BAD = CourtWash.BAD, STATE = CourtWash.STATE, FULL = CourtWash.FULL, NONE = CourtWash.NONE;
    private static final int LEAST = Integer.MIN_VALUE, MOST = Integer.MAX_VALUE;
    private static final Check CHECK = new Check("HangingTest");

    public static void main(String[] args) {
        CHECK.words("A PIECE HANGS on a LINE, if it was HUNG there:", HangingTest::whatWasHungHangs);
        CHECK.words("there must be room: its YARDS and those of all that HANGS there are no more than WIDE,", HangingTest::linesHaveRoom);
        CHECK.words("and no sheet HANGS beside anything.", HangingTest::sheetsHangAlone);
        CHECK.words("Nobody else may have a RIGHT to that LINE in the QUARTER that it is", HangingTest::rightsAreKept);
        CHECK.words("(QUARTERS gone, rest by 24)", HangingTest::rightsComeAgainEachDay);
        CHECK.words("if he has none himself.", HangingTest::whoHasARightMayHang);
        CHECK.words("HUNG: YARDS left on the LINE (0 for a sheet).", HangingTest::yardsLeftAreTold);
        CHECK.words("BAD: PIECE, LINE; STATE: it HANGS, or a RIGHT of somebody else; FULL: no room.", HangingTest::hangingIsRefused);
        CHECK.words("It is taken down: the LINE on which it hung.", HangingTest::piecesAreTaken);
        CHECK.words("BAD; STATE: it does not HANG.", HangingTest::takingIsRefused);
        CHECK.words("from ITEM i on for each PIECE a LINE, or -1 (it does not HANG), as many as there are PIECES:", HangingTest::rowsAreLaid);
        CHECK.words("all is taken down, then HUNG one by one: how many HANG.", HangingTest::allIsTakenDownFirst);
        CHECK.words("BAD: ROW; STATE: no COURT (ahead of BAD); NULL; PLACE;", HangingTest::layingIsRefused);
        CHECK.words("then BAD: an ITEM;", HangingTest::itemsAreLines);
        CHECK.words("STATE, FULL as hang() of the first PIECE that cannot (all stays).", HangingTest::whatCannotHangIsNotLaid);
        CHECK.words("Of a PIECE: 0 WET, 1 the LINE (NONE), 2 whether STAINED (1, 0), 3 WHO, 4 YARDS. BAD.", HangingTest::piecesAreTold);
        CHECK.words("Of a LINE: 0 FLOOR, 1 COLUMN, 2 WIDE, 3 PIECES that HANG (bits),", HangingTest::linesAreTold);
        CHECK.words("4 whose RIGHT it is in the QUARTER (bits of PEOPLE),", HangingTest::holdersAreTold);
        CHECK.words("5 the next LINE below (NONE). BAD.", HangingTest::linesBelowAreTold);
        CHECK.end();
    }

    private static void whatWasHungHangs() {
        CourtWash x = Texts.courtOf(Texts.STILL + "line 1 0 9;line 0 0 9;piece red 0 9 1;piece red 0 9 1;");
        CHECK.due("nothing hangs", x.count(4), 0);
        CHECK.due("not on the first line either", x.piece(0, 1), NONE);
        x.hang(1, 0);
        CHECK.due("one hangs", x.count(4), 1);
        CHECK.due("the other does not", x.piece(0, 1), NONE);
        CHECK.due("it hangs there", x.piece(1, 1), 0);
        CHECK.due("there it hangs", x.line(0, 3), 2);
        CHECK.due("and nowhere else", x.line(1, 3), 0);
        x.quarters(96);
        CHECK.due("it hangs on", x.piece(1, 1), 0);
    }

    private static void linesHaveRoom() {
        for (int wide = 1; wide <= 9; wide++) {
            for (int yards = 1; yards <= 9; yards++) {
                CourtWash x = Texts.courtOf(Texts.STILL + "line 1 0 " + wide + ";line 0 0 9;piece red 0 9 " + yards + ";");
                CHECK.due(yards + " on " + wide, x.hang(0, 0), yards <= wide ? wide - yards : FULL);
            }
        }
        CourtWash x = Texts.courtOf(Texts.STILL + "line 1 0 5;line 0 0 5;"
                + "piece red 0 9 2;piece wool 0 9 3;piece sock 0 9 1;piece black 0 9 4;piece red 0 9 1;");
        CHECK.due("2", x.hang(0, 0), 3);
        CHECK.due("4 more are too many", x.hang(3, 0), FULL);
        CHECK.due("3 more fill it", x.hang(1, 0), 0);
        CHECK.due("1 more is too much", x.hang(2, 0), FULL);
        CHECK.due("what hangs elsewhere takes no room", x.hang(3, 1), 1);
        x.take(1);
        CHECK.due("what was taken takes none", x.hang(2, 0), 2);
        CHECK.due("all that hangs there counts", x.hang(1, 0), FULL);
        CHECK.due("what fits, hangs", x.hang(4, 0), 1);
    }

    private static void sheetsHangAlone() {
        for (String sort : new String[] {"red", "wool", "sheet", "black", "sock"}) {
            CourtWash x = Texts.courtOf(Texts.STILL + "line 1 0 9;line 0 0 9;piece sheet 0 9 1;piece " + sort + " 0 9 1;");
            CHECK.due("a sheet", x.hang(0, 0), 0);
            CHECK.due(sort + " beside it", x.hang(1, 0), FULL);
            CHECK.that(sort + " elsewhere", x.hang(1, 1) >= 0);
            x.take(0);
            CHECK.due("a sheet beside " + sort, x.hang(0, 1), FULL);
            x.take(1);
            CHECK.due("a sheet where nothing hangs any more", x.hang(0, 1), 0);
        }
        CourtWash x = Texts.courtOf(Texts.STILL + "line 1 0 3;line 0 0 4;piece sheet 0 9 4;");
        CHECK.due("a sheet that is too wide", x.hang(0, 0), FULL);
        CHECK.due("a sheet that fits", x.hang(0, 1), 0);
    }

    /** Whether PIECE 0 can be HUNG on LINE 0, which is not its owner's, in each QUARTER from now on. */
    private static void freeBut(String what, String right, int from, int to) {
        CourtWash x = Texts.courtOf(Texts.STILL + "line 1 0 9;line 0 0 9;" + right + "piece red 0 9 1;");
        for (int q = 0; q < 24; q++) {
            boolean isKept = q >= from && q <= to;
            CHECK.due(what + " in " + q, x.hang(0, 0), isKept ? STATE : 8);
            CHECK.due("the other line in " + q, isKept ? x.hang(0, 1) : x.take(0), isKept ? 8 : 0);
            if (isKept) {
                x.take(0);
            }
            x.quarters(1);
        }
    }

    private static void rightsAreKept() {
        freeBut("no right", "", 24, 24);
        freeBut("0 to 0", "right 0 0 0 1;", 0, 0);
        freeBut("23 to 23", "right 0 23 23 5;", 23, 23);
        freeBut("0 to 23", "right 0 0 23 3;", 0, 23);
        freeBut("7 to 11", "right 0 7 11 2;", 7, 11);
        freeBut("7 to 11 of two", "right 0 7 9 2;right 0 8 11 4;", 7, 11);
        CourtWash x = Texts.courtOf(Texts.STILL + "line 1 0 9;right 0 1 1 1;piece red 0 9 1;");
        x.hang(0, 0);
        x.quarters(1);
        CHECK.due("what hangs stays", x.piece(0, 1), 0);
        CHECK.due("it is taken", x.take(0), 0);
        CHECK.due("it is not hung again", x.hang(0, 0), STATE);
    }

    private static void rightsComeAgainEachDay() {
        CourtWash x = Texts.courtOf(Texts.STILL + "line 1 0 9;right 0 23 23 1;right 0 0 0 2;piece red 0 9 1;piece red 1 9 1;piece red 2 9 1;");
        for (int day = 0; day < 5; day++) {
            CHECK.due("holders in 0", x.line(0, 4), 4);
            CHECK.due("2 in 0", x.hang(2, 0), 8);
            CHECK.due("1 in 0", x.hang(1, 0), STATE);
            x.take(2);
            x.quarters(1);
            CHECK.due("0 in 1", x.hang(0, 0), 8);
            x.take(0);
            x.quarters(22);
            CHECK.due("gone", x.count(6), 24 * day + 23);
            CHECK.due("holders in 23", x.line(0, 4), 2);
            CHECK.due("1 in 23", x.hang(1, 0), 8);
            CHECK.due("2 in 23", x.hang(2, 0), STATE);
            x.take(1);
            x.quarters(1);
        }
    }

    private static void whoHasARightMayHang() {
        CourtWash x = Texts.courtOf(Texts.STILL + "line 1 0 9;right 0 0 2 0;right 0 1 3 1;right 0 1 3 1;right 0 5 5 5;"
                + "piece red 0 9 1;piece red 1 9 1;piece red 2 9 1;piece red 5 9 1;");
        int[] people = {0, 1, 2, 5};
        int[] holders = {1, 3, 3, 2, 0, 32};
        for (int q = 0; q < holders.length; q++) {
            for (int p = 0; p < people.length; p++) {
                boolean may = holders[q] == 0 || (holders[q] >> people[p] & 1) == 1;
                CHECK.due("person " + people[p] + " in " + q, x.hang(p, 0), may ? 8 : STATE);
                x.take(p);
            }
            x.quarters(1);
        }
    }

    private static void yardsLeftAreTold() {
        CourtWash x = Texts.courtOf(Texts.STILL + "line 1 0 9;line 0 0 9;line 0 1 1;"
                + "piece red 0 9 1;piece wool 0 9 3;piece black 0 9 5;piece sheet 0 9 1;piece sock 0 9 1;");
        CHECK.due("8 are left", x.hang(0, 0), 8);
        CHECK.due("5 are left", x.hang(1, 0), 5);
        CHECK.due("none is left", x.hang(2, 0), 0);
        CHECK.due("a sheet of 1 on 9", x.hang(3, 1), 0);
        CHECK.due("1 on 1", x.hang(4, 2), 0);
    }

    private static void hangingIsRefused() {
        CourtWash x = new CourtWash();
        CHECK.due("no court", x.hang(0, 0), BAD);
        Texts.read(x, Texts.STILL + "line 1 0 1;line 0 0 9;right 0 0 0 1;piece red 0 9 2;piece red 1 9 2;piece red 2 0 1;");
        for (int p : new int[] {-1, 3, LEAST, MOST}) {
            CHECK.due("piece " + p, x.hang(p, 0), BAD);
        }
        for (int l : new int[] {-1, 2, LEAST, MOST}) {
            CHECK.due("line " + l, x.hang(0, l), BAD);
        }
        CHECK.due("a right, ahead of no room", x.hang(0, 0), STATE);
        CHECK.due("no room", x.hang(1, 0), FULL);
        CHECK.due("it hangs now", x.hang(1, 1), 7);
        CHECK.due("it hangs there already", x.hang(1, 1), STATE);
        CHECK.due("it hangs elsewhere, ahead of no room", x.hang(1, 0), STATE);
        CHECK.due("no such line, ahead of that it hangs", x.hang(1, 2), BAD);
        CHECK.due("a right, where there is room", x.hang(2, 0), STATE);
        x.quarters(1);
        CHECK.due("the right is over", x.hang(2, 0), 0);
        CHECK.due("no room then", x.hang(0, 0), FULL);
        CHECK.due("nothing else hangs", x.count(4), 2);
    }

    private static void piecesAreTaken() {
        CourtWash x = Texts.courtOf(Texts.day("92") + "line 1 0 9;line 0 0 9;line 3 3 9;piece red 0 90 2;piece wool 1 9 2;piece sock 1 9 7;");
        Texts.hang(x, 0, 1, 1);
        x.quarters(1);
        CHECK.due("the line of 1", x.take(1), 1);
        CHECK.due("it is down", x.piece(1, 1), NONE);
        CHECK.due("it is as wet as it was", x.piece(1, 0), 12);
        CHECK.due("it stays stained", x.piece(1, 2), 1);
        CHECK.due("the other hangs", x.line(1, 3), 4);
        CHECK.due("the line of 0", x.take(0), 0);
        CHECK.due("one hangs", x.count(4), 1);
        CHECK.due("its room is free", x.hang(0, 1), 0);
        CHECK.due("the line of 0 now", x.take(0), 1);
        x.hang(0, 2);
        CHECK.due("the last line", x.take(0), 2);
    }

    private static void takingIsRefused() {
        CourtWash x = new CourtWash();
        CHECK.due("no court", x.take(0), BAD);
        Texts.read(x, Texts.STILL + "line 1 0 9;piece red 0 9 2;piece red 1 9 2;");
        for (int p : new int[] {-1, 2, LEAST, MOST}) {
            CHECK.due("piece " + p, x.take(p), BAD);
        }
        CHECK.due("it does not hang", x.take(1), STATE);
        x.hang(1, 0);
        CHECK.due("it hangs", x.take(1), 0);
        CHECK.due("it hangs no more", x.take(1), STATE);
    }

    private static CourtWash courtToLay() {
        return Texts.courtOf(Texts.STILL + "line 1 0 3;line 0 0 3;right 1 0 0 1;"
                + "piece red 0 9 2;piece wool 1 9 2;piece sock 0 9 1;");
    }

    private static void laid(String what, CourtWash x, int... lines) {
        for (int p = 0; p < lines.length; p++) {
            CHECK.due(what + ", piece " + p, x.piece(p, 1), lines[p] < 0 ? NONE : lines[p]);
        }
    }

    private static void rowsAreLaid() {
        CourtWash x = courtToLay();
        Texts.rowOf(x, 0, 9, -1, 1, 0, 9);
        CHECK.due("from 1 on", x.lay(0, 1), 2);
        laid("from 1 on", x, -1, 1, 0);
        CHECK.due("status", x.status(), 0);
        Texts.rowOf(x, 0, -1, -1, -1);
        CHECK.due("all down", x.lay(0, 0), 0);
        laid("all down", x, -1, -1, -1);
        Texts.rowOfLane(x, 1, 0, 255, 255, 0);
        CHECK.due("a row of bytes", x.lay(1, 0), 1);
        laid("a row of bytes", x, -1, -1, 0);
        Texts.rowOfLane(x, 2, 1, 0, 1, 65535);
        CHECK.due("a row of shorts", x.lay(2, 0), 2);
        laid("a row of shorts", x, 0, 1, -1);
        x.row(3, 2, 40);
        x.set(3, 37, -1);
        x.set(3, 38, 1);
        CHECK.due("the end of a long row", x.lay(3, 37), 2);
        laid("the end of a long row", x, -1, 1, 0);
        Texts.read(x, Texts.STILL + "line 0 0 1;");
        CHECK.due("no pieces", x.lay(3, 0), 0);
        CourtWash ten = Texts.courtOf(Texts.STILL + Texts.linesOf(8) + "piece sock 0 0 2;".repeat(10));
        Texts.rowOf(ten, 0, 0, 1, 2, 3, 4, 5, 6, 7, 0, 7);
        CHECK.due("ten pieces", ten.lay(0, 0), 10);
        laid("ten pieces", ten, 0, 1, 2, 3, 4, 5, 6, 7, 0, 7);
        Texts.rowOf(ten, 0, -1, 1, 2, 3, 4, 5, 6, 7, 0, -1);
        CHECK.due("all but the first and the last", ten.lay(0, 0), 8);
        laid("all but the first and the last", ten, -1, 1, 2, 3, 4, 5, 6, 7, 0, -1);
    }

    private static void allIsTakenDownFirst() {
        CourtWash x = Texts.courtOf(Texts.day("90") + "line 1 0 2;line 0 0 2;right 0 1 1 1;piece red 0 50 2;piece wool 1 9 2;");
        Texts.hang(x, 0, 1);
        x.quarters(2);
        Texts.rowOf(x, 0, 1, 0);
        CHECK.due("they change lines", x.lay(0, 0), 2);
        laid("they change lines", x, 1, 0);
        CHECK.due("wet stays", x.piece(1, 0), 15);
        CHECK.due("stains stay", x.piece(1, 2), 1);
        CHECK.due("quarters stay", x.count(6), 2);
        CHECK.due("as it hangs", x.lay(0, 0), 2);
        x.set(0, 0, -1);
        CHECK.due("one is left", x.lay(0, 0), 1);
        laid("one is left", x, -1, 0);
        Texts.rowOf(x, 1, 0, -1);
        CHECK.due("the other", x.lay(1, 0), 1);
        x.quarters(23);
        CHECK.due("what hangs is hung anew: a right of another", x.lay(1, 0), STATE);
        CHECK.due("it hangs on", x.piece(0, 1), 0);
    }

    private static void layingIsRefused() {
        CourtWash x = new CourtWash();
        Texts.rowOf(x, 0, 0, 0, 0, 0);
        for (int row : new int[] {0, 1, 8, -1}) {
            CHECK.due("no court, row " + row, x.lay(row, 0), STATE);
        }
        CHECK.due("no court ahead of PLACE", x.lay(0, 9), STATE);
        x = courtToLay();
        for (int row : new int[] {-1, 8, LEAST, MOST}) {
            CHECK.due("row " + row, x.lay(row, -1), BAD);
        }
        CHECK.due("status behind BAD", x.status(), 0);
        CHECK.due("no row", x.lay(0, 0), Finding.NULL);
        CHECK.due("NULL ahead of PLACE", x.lay(0, -1), Finding.NULL);
        CHECK.due("status of null", x.status(), 1);
        Texts.rowOf(x, 0, -1, -1, -1, 9);
        for (int i : new int[] {2, 3, 4, 5, -1, LEAST, MOST, MOST - 1, MOST - 2}) {
            CHECK.due("lay from " + i, x.lay(0, i), Finding.PLACE);
            CHECK.due("status of place", x.status(), 2);
        }
        CHECK.due("just long enough", x.lay(0, 0), 0);
        x.set(0, 3, 0);
        CHECK.due("just long enough from 1", x.lay(0, 1), 1);
        x.row(1, 0, 2);
        CHECK.due("too short", x.lay(1, 0), Finding.PLACE);
        x.row(1, 0, 0);
        CHECK.due("empty", x.lay(1, 0), Finding.PLACE);
        CHECK.due("as it was laid", x.piece(2, 1), 0);
    }

    private static void itemsAreLines() {
        int[] wrong = {-2, 2, 127, LEAST, MOST};
        for (int at = 0; at < 3; at++) {
            for (int w : wrong) {
                CourtWash x = courtToLay();
                Texts.rowOf(x, 0, -1, -1, -1);
                x.set(0, at, w);
                x.as(0, 5);
                CHECK.due("item " + at + " is " + w, x.lay(0, 0), BAD);
                CHECK.due("BAD leaves status", x.status(), 3);
            }
        }
        CourtWash x = courtToLay();
        Texts.rowOf(x, 0, 0, 0, 2);
        CHECK.due("no such line, ahead of no room", x.lay(0, 0), BAD);
        Texts.rowOf(x, 0, 1, 0, -2);
        CHECK.due("no such line, ahead of a right", x.lay(0, 0), BAD);
        Texts.rowOf(x, 0, 2, -1, -1, -1);
        CHECK.due("an item ahead of i does not matter", x.lay(0, 1), 0);
        Texts.rowOf(x, 0, -1, -1, -1, 2);
        CHECK.due("an item behind the last does not matter", x.lay(0, 0), 0);
    }

    private static void whatCannotHangIsNotLaid() {
        int[][] rows = {{0, 0, 1}, {1, 0, 0}, {0, 1, 1}, {1, 1, 0}, {0, 1, -1}};
        int[] answers = {FULL, STATE, STATE, STATE, 2};
        for (int i = 0; i < rows.length; i++) {
            CourtWash x = courtToLay();
            Texts.hang(x, -1, 1, 0);
            Texts.rowOf(x, 0, rows[i]);
            x.as(0, 5);
            CHECK.due("row " + i, x.lay(0, 0), answers[i]);
            boolean isLaid = answers[i] == 2;
            laid("all stays, row " + i, x, isLaid ? 0 : -1, 1, isLaid ? -1 : 0);
            CHECK.due("refusals leave status, row " + i, x.status(), isLaid ? 0 : 3);
        }
        CourtWash x = Texts.courtOf(Texts.STILL + "line 1 0 9;line 0 0 9;right 1 0 0 1;piece sheet 0 9 2;piece wool 0 9 2;piece sock 0 9 1;");
        Texts.rowOf(x, 0, 0, 0, 1);
        CHECK.due("beside a sheet, ahead of a right", x.lay(0, 0), FULL);
        Texts.rowOf(x, 0, 0, 1, 0);
        CHECK.due("a right, ahead of what is beside a sheet", x.lay(0, 0), STATE);
        CHECK.due("nothing hangs", x.count(4), 0);
    }

    private static void piecesAreTold() {
        CourtWash x = new CourtWash();
        CHECK.due("no court", x.piece(0, 0), BAD);
        Texts.read(x, Texts.day("12") + "line 1 0 9;line 0 0 9;piece red 3 99 2;piece wool 4 0 5;");
        int[] told = {0, NONE, 0, 4, 5};
        for (int what = 0; what < told.length; what++) {
            CHECK.due("piece 1, " + what, x.piece(1, what), told[what]);
        }
        for (int what : new int[] {-1, 5, LEAST, MOST}) {
            CHECK.due("what " + what, x.piece(1, what), BAD);
        }
        for (int p : new int[] {-1, 2, LEAST, MOST}) {
            CHECK.due("piece " + p, x.piece(p, 0), BAD);
        }
        Texts.hang(x, 0, 1);
        x.quarters(1);
        int[] then = {3, 1, 1, 4, 5};
        for (int what = 0; what < then.length; what++) {
            CHECK.due("piece 1 then, " + what, x.piece(1, what), then[what]);
        }
        CHECK.due("line 0 is no NONE", x.piece(0, 1), 0);
        x.take(1);
        CHECK.due("it hangs no more", x.piece(1, 1), NONE);
    }

    private static void linesAreTold() {
        CourtWash x = new CourtWash();
        CHECK.due("no court", x.line(0, 0), BAD);
        Texts.read(x, Texts.STILL + "line 0 1 4;line 9 1 5;line 3 3 9;piece red 0 1 1;piece red 0 1 1;");
        int[][] told = {{0, 1, 4}, {9, 1, 5}, {3, 3, 9}};
        for (int l = 0; l < 3; l++) {
            for (int what = 0; what < 3; what++) {
                CHECK.due("line " + l + ", " + what, x.line(l, what), told[l][what]);
            }
            CHECK.due("nothing on " + l, x.line(l, 3), 0);
        }
        Texts.hang(x, 2, 2);
        CHECK.due("both on 2", x.line(2, 3), 3);
        CHECK.due("nothing on 0", x.line(0, 3), 0);
        x.take(0);
        CHECK.due("one on 2", x.line(2, 3), 2);
        for (int l : new int[] {-1, 3, LEAST, MOST}) {
            CHECK.due("line " + l, x.line(l, 0), BAD);
        }
        for (int what : new int[] {-1, 6, LEAST, MOST}) {
            CHECK.due("what " + what, x.line(0, what), BAD);
        }
    }

    private static void holdersAreTold() {
        CourtWash x = Texts.courtOf(Texts.STILL + "line 1 0 9;line 0 0 9;right 0 1 2 0;right 0 2 3 1;right 0 2 3 1;right 1 0 23 5;right 1 22 23 4;");
        int[] holders = {0, 1, 3, 2, 0};
        for (int q = 0; q < 24 + holders.length; q++) {
            int today = q % 24;
            CHECK.due("holders of 0 in " + q, x.line(0, 4), today < holders.length ? holders[today] : 0);
            CHECK.due("holders of 1 in " + q, x.line(1, 4), today >= 22 ? 48 : 32);
            x.quarters(1);
        }
    }

    private static void linesBelowAreTold() {
        CourtWash x = Texts.courtOf(Texts.STILL + "line 0 1 4;line 9 1 5;line 3 1 6;line 4 2 7;line 6 1 8;line 4 3 9;line 3 2 1;");
        int[] below = {NONE, 4, 0, 6, 2, NONE, NONE};
        for (int l = 0; l < below.length; l++) {
            CHECK.due("below " + l, x.line(l, 5), below[l]);
        }
        CHECK.due("below 7", x.line(7, 5), BAD);
        int[][] orders = {{3, 9, 1}, {3, 1, 9}, {9, 3, 1}, {9, 1, 3}, {1, 3, 9}, {1, 9, 3}};
        for (int[] floors : orders) {
            StringBuilder text = new StringBuilder(Texts.STILL);
            for (int floor : floors) {
                text.append("line ").append(floor).append(" 2 9;");
            }
            CourtWash y = Texts.courtOf(text.toString());
            for (int l = 0; l < 3; l++) {
                int next = y.line(l, 5);
                CHECK.due("below floor " + floors[l], next < 0 ? next : floors[next], floors[l] == 9 ? 3 : floors[l] == 3 ? 1 : NONE);
            }
        }
    }
}
