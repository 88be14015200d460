/** Promises 9, 10, 12, 13, 14: hang, take, lay, piece, line. */
public final class HangingTest {
    private static final int NULL = -1000011, PLACE = -1000012;
    private static final Check CHECK = new Check("HangingTest");

    public static void main(String[] args) {
        linesHaveRoom();
        sheetsHangAlone();
        rightsAreKept();
        refusalsComeInOrder();
        piecesAreTaken();
        piecesAreTold();
        linesAreTold();
        rowsAreLaid();
        layingIsRefused();
        CHECK.end();
    }

    private static void linesHaveRoom() {
        CourtWash x = Texts.courtOf(Texts.STILL + "line 1 0 5;line 0 0 3;"
                + "piece red 0 9 2;piece wool 0 9 3;piece sock 0 9 1;piece black 0 9 4;");
        CHECK.due("first", x.hang(0, 0), 3);
        CHECK.due("second fills it", x.hang(1, 0), 0);
        CHECK.due("third", x.hang(2, 0), CourtWash.FULL);
        CHECK.due("fourth is too wide", x.hang(3, 1), CourtWash.FULL);
        CHECK.due("third beside", x.hang(2, 1), 2);
        CHECK.due("on the first", x.line(0, 3), 3);
        CHECK.due("on the second", x.line(1, 3), 4);
        CHECK.due("hang", x.count(4), 3);
    }

    private static void sheetsHangAlone() {
        CourtWash x = Texts.courtOf(Texts.STILL + "line 1 0 9;line 0 0 3;"
                + "piece sheet 0 9 4;piece sheet 0 9 1;piece sock 0 9 1;");
        CHECK.due("too wide", x.hang(0, 1), CourtWash.FULL);
        CHECK.due("a sheet", x.hang(0, 0), 0);
        CHECK.due("a sheet beside", x.hang(1, 0), CourtWash.FULL);
        CHECK.due("a sock beside", x.hang(2, 0), CourtWash.FULL);
        CHECK.due("a sock", x.hang(2, 1), 2);
        CHECK.due("a sheet beside a sock", x.hang(1, 1), CourtWash.FULL);
        x.take(2);
        CHECK.due("a sheet alone", x.hang(1, 1), 0);
    }

    private static void rightsAreKept() {
        CourtWash x = Texts.courtOf(Texts.STILL + "line 1 0 9;line 0 0 9;right 0 1 2 0;right 0 2 3 1;right 0 2 3 1;right 1 23 23 5;"
                + "piece red 0 9 1;piece red 1 9 1;piece red 2 9 1;");
        int[] holders = {0, 1, 3, 2, 0};
        for (int q = 0; q < 24 + holders.length; q++) {
            int now = q % 24 < holders.length ? holders[q % 24] : 0;
            CHECK.due("holders in " + q, x.line(0, 4), now);
            CHECK.due("holders of the other in " + q, x.line(1, 4), q % 24 == 23 ? 32 : 0);
            for (int p = 0; p < 3; p++) {
                boolean may = now == 0 || (now >> p & 1) == 1;
                CHECK.due("hang " + p + " in " + q, x.hang(p, 0), may ? 8 : CourtWash.STATE);
                CHECK.due("take " + p + " in " + q, x.take(p), may ? 0 : CourtWash.STATE);
                CHECK.due("hang beside " + p + " in " + q, x.hang(p, 1), q % 24 == 23 ? CourtWash.STATE : 8);
                x.take(p);
            }
            x.quarters(1);
        }
    }

    private static void refusalsComeInOrder() {
        CourtWash x = new CourtWash();
        CHECK.due("no court", x.hang(0, 0), CourtWash.BAD);
        Texts.read(x, Texts.STILL + "line 1 0 1;line 0 0 9;right 0 0 0 1;piece red 0 9 2;piece red 1 9 2;piece red 2 0 1;");
        CHECK.due("piece 3", x.hang(3, 0), CourtWash.BAD);
        CHECK.due("piece -1", x.hang(-1, 0), CourtWash.BAD);
        CHECK.due("line 2", x.hang(0, 2), CourtWash.BAD);
        CHECK.due("line -1", x.hang(0, -1), CourtWash.BAD);
        CHECK.due("STATE ahead of FULL", x.hang(0, 0), CourtWash.STATE);
        CHECK.due("FULL", x.hang(1, 0), CourtWash.FULL);
        CHECK.due("it hangs", x.hang(1, 1), 7);
        CHECK.due("it hangs already", x.hang(1, 1), CourtWash.STATE);
        CHECK.due("STATE ahead of FULL again", x.hang(1, 0), CourtWash.STATE);
        CHECK.due("BAD ahead of STATE", x.hang(1, 2), CourtWash.BAD);
        x.quarters(1);
        CHECK.due("the right is over", x.hang(2, 0), 0);
    }

    private static void piecesAreTaken() {
        CourtWash x = new CourtWash();
        CHECK.due("no court", x.take(0), CourtWash.BAD);
        Texts.read(x, Texts.STILL + "line 1 0 9;line 0 0 9;piece red 0 9 2;piece red 1 9 2;");
        CHECK.due("it does not hang", x.take(1), CourtWash.STATE);
        x.hang(1, 1);
        CHECK.due("piece 2", x.take(2), CourtWash.BAD);
        CHECK.due("piece -1", x.take(-1), CourtWash.BAD);
        CHECK.due("the line", x.take(1), 1);
        CHECK.due("it is down", x.piece(1, 1), CourtWash.NONE);
        CHECK.due("taken again", x.take(1), CourtWash.STATE);
        CHECK.due("the line has room", x.hang(0, 1), 7);
    }

    private static void piecesAreTold() {
        CourtWash x = Texts.courtOf(Texts.day("12") + "line 1 0 9;line 0 0 9;piece red 3 99 2;piece wool 4 0 5;");
        int[] told = {0, CourtWash.NONE, 0, 4, 5};
        for (int what = 0; what < told.length; what++) {
            CHECK.due("piece 1, " + what, x.piece(1, what), told[what]);
        }
        CHECK.due("what 5", x.piece(1, 5), CourtWash.BAD);
        CHECK.due("what -1", x.piece(1, -1), CourtWash.BAD);
        CHECK.due("piece 2", x.piece(2, 0), CourtWash.BAD);
        CHECK.due("piece -1", x.piece(-1, 0), CourtWash.BAD);
        x.hang(0, 0);
        x.hang(1, 1);
        x.quarters(1);
        int[] then = {3, 1, 1, 4, 5};
        for (int what = 0; what < then.length; what++) {
            CHECK.due("piece 1 then, " + what, x.piece(1, what), then[what]);
        }
    }

    private static void linesAreTold() {
        CourtWash x = new CourtWash();
        CHECK.due("no court", x.line(0, 0), CourtWash.BAD);
        Texts.read(x, Texts.STILL + "line 0 1 4;line 9 1 5;line 3 1 6;line 4 2 7;line 6 1 8;piece red 0 1 1;");
        int[] below = {CourtWash.NONE, 4, 0, CourtWash.NONE, 2};
        int[] floors = {0, 9, 3, 4, 6};
        for (int l = 0; l < 5; l++) {
            CHECK.due("floor of " + l, x.line(l, 0), floors[l]);
            CHECK.due("column of " + l, x.line(l, 1), l == 3 ? 2 : 1);
            CHECK.due("wide of " + l, x.line(l, 2), 4 + l);
            CHECK.due("pieces on " + l, x.line(l, 3), 0);
            CHECK.due("below " + l, x.line(l, 5), below[l]);
        }
        CHECK.due("line 5", x.line(5, 0), CourtWash.BAD);
        CHECK.due("line -1", x.line(-1, 0), CourtWash.BAD);
        CHECK.due("what 6", x.line(0, 6), CourtWash.BAD);
        CHECK.due("what -1", x.line(0, -1), CourtWash.BAD);
    }

    private static CourtWash courtToLay() {
        return Texts.courtOf(Texts.STILL + "line 1 0 3;line 0 0 3;right 1 0 0 1;"
                + "piece red 0 9 2;piece wool 1 9 2;piece sock 0 9 1;");
    }

    private static void rowsAreLaid() {
        CourtWash x = courtToLay();
        x.hang(0, 0);
        Texts.rowOf(x, 0, 9, -1, 1, 0, 9);
        CHECK.due("laid", x.lay(0, 1), 2);
        CHECK.due("0 is down", x.piece(0, 1), CourtWash.NONE);
        CHECK.due("1 hangs", x.piece(1, 1), 1);
        CHECK.due("2 hangs", x.piece(2, 1), 0);
        CHECK.due("status", x.status(), 0);
        Texts.rowOf(x, 0, -1, -1, -1);
        CHECK.due("all down", x.lay(0, 0), 0);
        x.row(1, 0, 3);
        x.set(1, 0, 255);
        x.set(1, 1, 255);
        CHECK.due("a row of bytes", x.lay(1, 0), 1);
        Texts.read(x, Texts.STILL + "line 0 0 1;");
        CHECK.due("no pieces", x.lay(0, 3), 0);
        CHECK.due("beyond the end", x.lay(0, 4), PLACE);
    }

    private static void layingIsRefused() {
        CourtWash x = new CourtWash();
        CHECK.due("no court ahead of BAD", x.lay(9, 0), CourtWash.STATE);
        x = courtToLay();
        x.hang(0, 0);
        CHECK.due("row 8", x.lay(8, 0), CourtWash.BAD);
        CHECK.due("row -1", x.lay(-1, 0), CourtWash.BAD);
        CHECK.due("no row", x.lay(0, 0), NULL);
        CHECK.due("status of null", x.status(), 1);
        Texts.rowOf(x, 0, 0, 0, 0, 2);
        CHECK.due("too short", x.lay(0, 2), PLACE);
        CHECK.due("status of place", x.status(), 2);
        CHECK.due("below 0", x.lay(0, -1), PLACE);
        CHECK.due("far off", x.lay(0, Integer.MAX_VALUE), PLACE);
        CHECK.due("no such line, behind one without room", x.lay(0, 1), CourtWash.BAD);
        CHECK.due("BAD leaves status", x.status(), 2);
        CHECK.due("no room", x.lay(0, 0), CourtWash.FULL);
        Texts.rowOf(x, 0, 0, -2, 0);
        CHECK.due("no such line", x.lay(0, 0), CourtWash.BAD);
        Texts.rowOf(x, 0, 1, 0, 0);
        CHECK.due("a right", x.lay(0, 0), CourtWash.STATE);
        Texts.rowOf(x, 0, 0, 0, 1);
        CHECK.due("the first that cannot", x.lay(0, 0), CourtWash.FULL);
        Texts.rowOf(x, 0, 0, 1, 1);
        CHECK.due("the last", x.lay(0, 0), CourtWash.STATE);
        CHECK.due("status of the rows made", x.status(), 0);
        CHECK.due("all stays", x.line(0, 3) * 10 + x.line(1, 3), 10);
    }
}
