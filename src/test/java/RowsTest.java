/** ROWS in Terms 1, and promises 2 to 5: row, set, copy, drop. */
public final class RowsTest {
    private static final int LEAST = Integer.MIN_VALUE, MOST = Integer.MAX_VALUE;
    private static final Check CHECK = new Check("RowsTest");

    public static void main(String[] args) {
        CHECK.words("ROWS 0 .. 7", RowsTest::thereAreEightRows);
        CHECK.words("are missing (at first)", RowsTest::rowsAreMissingAtFirst);
        CHECK.words("or have a LANE (0 bytes, 1 shorts, 2 ints)", RowsTest::thereAreThreeLanes);
        CHECK.words("and 0 to 40 ITEMS", RowsTest::rowsHaveItems);
        CHECK.words("0 at first.", RowsTest::itemsAreZeroAtFirst);
        CHECK.words("A ROW of a LANE with n ITEMS, in place of what is there: n.", RowsTest::rowsTakeThePlaceOfOthers);
        CHECK.words("BAD: ROW, LANE, n above 40; SIZE.", RowsTest::makingIsRefused);
        CHECK.words("ITEM i becomes v, its lowest bits, as many as the LANE has (read with their sign): what it is then.",
                RowsTest::itemsAreCutToTheirLane);
        CHECK.words("BAD: ROW; NULL; PLACE.", RowsTest::settingIsRefused);
        CHECK.words("n ITEMS of a from i on come to b from j on", RowsTest::itemsAreCopied);
        CHECK.words("as they were ahead: n.", RowsTest::itemsAreCopiedOntoThemselves);
        CHECK.words("BAD: ROWS; NULL; STORE;", RowsTest::copyingIsRefused);
        CHECK.words("PLACE (i, j, n below 0, or beyond an end).", RowsTest::copyingHasPlaces);
        CHECK.words("A ROW is missing from now on: how many ITEMS it had.", RowsTest::rowsAreDropped);
        CHECK.words("BAD; NULL.", RowsTest::droppingIsRefused);
        CHECK.end();
    }

    private static void items(String what, CourtWash x, int row, int... due) {
        for (int i = 0; i < due.length; i++) {
            CHECK.due(what + ", item " + i, Texts.itemOf(x, row, i), due[i]);
        }
    }

    private static void thereAreEightRows() {
        CourtWash x = Texts.courtOf(Texts.EIGHT_LINES_ONE_PIECE);
        for (int row = 0; row < 8; row++) {
            CHECK.due("row " + row, x.row(row, 2, 40), 40);
            CHECK.due("rows", x.count(0), row + 1);
            x.set(row, 0, row);
            x.set(row, 39, 7 - row);
        }
        for (int row = 0; row < 8; row++) {
            CHECK.due("the first of " + row, Texts.itemOf(x, row, 0), row);
            CHECK.due("the second of " + row, Texts.itemOf(x, row, 1), 0);
            CHECK.due("the last of " + row, Texts.itemOf(x, row, 39), 7 - row);
        }
        for (int row : new int[] {-1, 8, LEAST, MOST}) {
            CHECK.due("row " + row, x.row(row, 0, 1), CourtWash.BAD);
        }
    }

    private static void rowsAreMissingAtFirst() {
        CourtWash x = new CourtWash();
        for (int row = 0; row < 8; row++) {
            CHECK.due("set in " + row, x.set(row, 0, 0), Finding.NULL);
            CHECK.due("copy of " + row, x.copy(row, 0, row, 0, 0), Finding.NULL);
            CHECK.due("drop " + row, x.drop(row), Finding.NULL);
        }
        CHECK.due("rows", x.count(0), 0);
    }

    private static void thereAreThreeLanes() {
        CourtWash x = new CourtWash();
        int[] kept = {112, 4464, 70000};
        for (int lane = 0; lane < 3; lane++) {
            CHECK.due("lane " + lane, x.row(0, lane, 1), 1);
            CHECK.due("what lane " + lane + " keeps", x.set(0, 0, 70000), kept[lane]);
        }
        for (int lane : new int[] {-1, 3, LEAST, MOST}) {
            CHECK.due("lane " + lane, x.row(0, lane, 1), CourtWash.BAD);
        }
    }

    private static void rowsHaveItems() {
        CourtWash x = new CourtWash();
        for (int lane = 0; lane < 3; lane++) {
            CHECK.due("a row of none", x.row(lane, lane, 0), 0);
            CHECK.due("it is there", x.count(0), lane + 1);
            CHECK.due("it has no first item", x.set(lane, 0, 1), Finding.PLACE);
            CHECK.due("a row of one", x.row(lane, lane, 1), 1);
            CHECK.due("its item", x.set(lane, 0, 1), 1);
            CHECK.due("it has no second item", x.set(lane, 1, 1), Finding.PLACE);
            CHECK.due("a row of 40", x.row(lane, lane, 40), 40);
            CHECK.due("its last item", x.set(lane, 39, 1), 1);
            CHECK.due("behind its end", x.set(lane, 40, 1), Finding.PLACE);
            CHECK.due("a row of 41", x.row(lane, lane, 41), CourtWash.BAD);
        }
    }

    private static void itemsAreZeroAtFirst() {
        CourtWash x = Texts.courtOf(Texts.EIGHT_LINES_ONE_PIECE);
        int[] all = new int[40];
        x.row(3, 0, 40);
        items("a new row", x, 3, all);
        x.set(3, 0, 5);
        x.set(3, 39, 6);
        x.row(3, 2, 40);
        items("a row in place of another", x, 3, all);
        x.set(3, 1, 5);
        x.set(3, 38, 6);
        x.drop(3);
        x.row(3, 1, 40);
        items("a row where one was dropped", x, 3, all);
    }

    private static void rowsTakeThePlaceOfOthers() {
        CourtWash x = Texts.courtOf(Texts.EIGHT_LINES_ONE_PIECE);
        Texts.rowOf(x, 7, 1, 2, 3);
        Texts.rowOf(x, 6, 4, 5, 6);
        CHECK.due("a shorter one", x.row(7, 0, 2), 2);
        CHECK.due("its end", x.set(7, 2, 0), Finding.PLACE);
        CHECK.due("its lane", x.set(7, 1, 128), -128);
        CHECK.due("a longer one", x.row(7, 1, 4), 4);
        CHECK.due("its lane", x.set(7, 3, 32768), -32768);
        items("nothing of the old one is left", x, 7, 0, 0, 0);
        CHECK.due("an empty one", x.row(7, 2, 0), 0);
        CHECK.due("how many rows", x.count(0), 2);
        items("the other stays", x, 6, 4, 5, 6);
    }

    private static void makingIsRefused() {
        CourtWash x = new CourtWash();
        x.row(2, 2, 3);
        int[][] bad = {{8, 0, 1}, {-1, 0, 1}, {2, 3, 1}, {2, -1, 1}, {2, 0, 41}, {2, 0, MOST},
            {8, 0, -1}, {-1, 0, -1}, {2, 3, -1}, {2, -1, -1}, {8, 3, 41}};
        for (int[] b : bad) {
            CHECK.due("row " + b[0] + " " + b[1] + " " + b[2], x.row(b[0], b[1], b[2]), CourtWash.BAD);
        }
        CHECK.due("status behind BAD", x.status(), 0);
        for (int n : new int[] {-1, -40, LEAST}) {
            CHECK.due("row of " + n, x.row(2, 0, n), Finding.SIZE);
            CHECK.due("status of that", x.status(), 4);
        }
        CHECK.due("of a missing row", x.row(3, 0, -1), Finding.SIZE);
        CHECK.due("rows", x.count(0), 1);
        CHECK.due("what was there stays", x.set(2, 2, 70000), 70000);
    }

    private static void itemsAreCutToTheirLane() {
        CourtWash x = new CourtWash();
        for (int lane = 0; lane < 3; lane++) {
            x.row(lane, lane, 2);
        }
        int[] values = {0, 1, -1, 127, 128, 255, 256, 257, -128, -129, 32767, 32768, 65535, 65536, 65537, -32768, -32769,
            MOST, LEAST};
        for (int v : values) {
            CHECK.due("a byte of " + v, x.set(0, 1, v), (byte) v);
            CHECK.due("a short of " + v, x.set(1, 1, v), (short) v);
            CHECK.due("an int of " + v, x.set(2, 1, v), v);
        }
        CourtWash y = Texts.courtOf(Texts.EIGHT_LINES_ONE_PIECE);
        Texts.rowOfLane(y, 0, 0, 256 + 5, 255, -256);
        items("bytes are kept so", y, 0, 5, -1, 0);
        Texts.rowOfLane(y, 1, 1, 65536 + 6, 65535, 1 << 31);
        items("shorts are kept so", y, 1, 6, -1, 0);
        Texts.rowOfLane(y, 2, 2, 7, -1, 65536);
        items("ints are kept so", y, 2, 7, -1, CourtWash.BAD);
    }

    private static void settingIsRefused() {
        CourtWash x = new CourtWash();
        x.row(0, 0, 2);
        for (int row : new int[] {-1, 8, LEAST, MOST}) {
            CHECK.due("set in row " + row, x.set(row, 0, 0), CourtWash.BAD);
            CHECK.due("set at no place of row " + row, x.set(row, -1, 0), CourtWash.BAD);
        }
        CHECK.due("status behind BAD", x.status(), 0);
        CHECK.due("set in none", x.set(3, 0, 0), Finding.NULL);
        CHECK.due("set at no place of none", x.set(3, -1, 0), Finding.NULL);
        CHECK.due("status of null", x.status(), 1);
        for (int i : new int[] {-1, 2, 40, LEAST, MOST}) {
            CHECK.due("set at " + i, x.set(0, i, 0), Finding.PLACE);
            CHECK.due("status of place", x.status(), 2);
        }
        CHECK.due("set at 1", x.set(0, 1, 7), 7);
        CHECK.due("status of none", x.status(), 0);
    }

    private static void itemsAreCopied() {
        CourtWash x = Texts.courtOf(Texts.EIGHT_LINES_ONE_PIECE);
        for (int lane = 0; lane < 3; lane++) {
            Texts.rowOfLane(x, 0, lane, 1, 2, 3, 4);
            Texts.rowOfLane(x, 1, lane, 7, 7, 7, 7, 7);
            CHECK.due("two to another row", x.copy(0, 1, 1, 3, 2), 2);
            items("there", x, 1, 7, 7, 7, 2, 3);
            items("here", x, 0, 1, 2, 3, 4);
            CHECK.due("status", x.status(), 0);
        }
        CHECK.due("a whole row", x.copy(0, 0, 1, 1, 4), 4);
        items("there", x, 1, 7, 1, 2, 3, 4);
    }

    private static void itemsAreCopiedOntoThemselves() {
        CourtWash x = Texts.courtOf(Texts.EIGHT_LINES_ONE_PIECE);
        Texts.rowOf(x, 0, 1, 2, 3, 4);
        CHECK.due("up", x.copy(0, 0, 0, 1, 3), 3);
        items("up", x, 0, 1, 1, 2, 3);
        Texts.rowOf(x, 0, 1, 2, 3, 4);
        CHECK.due("down", x.copy(0, 1, 0, 0, 3), 3);
        items("down", x, 0, 2, 3, 4, 4);
        CHECK.due("in place", x.copy(0, 0, 0, 0, 4), 4);
        items("in place", x, 0, 2, 3, 4, 4);
    }

    private static void copyingIsRefused() {
        CourtWash x = new CourtWash();
        for (int lane = 0; lane < 3; lane++) {
            x.row(lane, lane, 4);
        }
        int[][] bad = {{8, 0}, {-1, 0}, {0, 8}, {0, -1}, {LEAST, 0}, {0, MOST}, {3, 9}, {9, 3}};
        for (int[] b : bad) {
            CHECK.due("copy of " + b[0] + " to " + b[1], x.copy(b[0], 0, b[1], 0, -1), CourtWash.BAD);
        }
        CHECK.due("status behind BAD", x.status(), 0);
        int[][] missing = {{3, 0}, {0, 3}, {3, 4}, {3, 3}};
        for (int[] m : missing) {
            CHECK.due("copy of " + m[0] + " to " + m[1], x.copy(m[0], 0, m[1], 0, 0), Finding.NULL);
            CHECK.due("NULL ahead of PLACE", x.copy(m[0], -1, m[1], 0, 9), Finding.NULL);
            CHECK.due("status of null", x.status(), 1);
        }
        int[][] unlike = {{0, 1}, {0, 2}, {1, 0}, {1, 2}, {2, 0}, {2, 1}};
        for (int[] u : unlike) {
            CHECK.due("copy of lane " + u[0] + " to " + u[1], x.copy(u[0], 0, u[1], 0, 1), Finding.STORE);
            CHECK.due("none of them, too", x.copy(u[0], 0, u[1], 0, 0), Finding.STORE);
            CHECK.due("STORE ahead of PLACE", x.copy(u[0], -1, u[1], 0, 9), Finding.STORE);
            CHECK.due("status of store", x.status(), 5);
        }
    }

    private static void copyingHasPlaces() {
        CourtWash x = Texts.courtOf(Texts.EIGHT_LINES_ONE_PIECE);
        Texts.rowOf(x, 0, 1, 2, 3, 4);
        Texts.rowOf(x, 1, 5, 5, 5, 5, 5);
        int[][] wrong = {{-1, 0, 1}, {0, -1, 1}, {0, 0, -1}, {-1, 0, 0}, {0, -1, 0}, {0, 0, 5}, {1, 0, 4}, {4, 0, 1}, {5, 0, 0},
            {0, 2, 4}, {0, 5, 1}, {0, 6, 0}, {MOST, 0, 1}, {0, MOST, 1}, {1, 1, MOST}, {MOST, MOST, MOST},
            {0, 0, LEAST}, {LEAST, 0, LEAST}, {2, 2, LEAST}, {LEAST, LEAST, 1}};
        for (int[] w : wrong) {
            CHECK.due("copy " + w[0] + " " + w[1] + " " + w[2], x.copy(0, w[0], 1, w[1], w[2]), Finding.PLACE);
            CHECK.due("status of place", x.status(), 2);
        }
        items("nothing came", x, 1, 5, 5, 5, 5, 5);
        CHECK.due("none at the ends", x.copy(0, 4, 1, 5, 0), 0);
        CHECK.due("none at the beginnings", x.copy(0, 0, 1, 0, 0), 0);
        items("none came", x, 1, 5, 5, 5, 5, 5);
        CHECK.due("up to both ends", x.copy(0, 3, 1, 4, 1), 1);
        items("one came", x, 1, 5, 5, 5, 5, 4);
    }

    private static void rowsAreDropped() {
        CourtWash x = new CourtWash();
        int[] sizes = {0, 1, 17, 40};
        for (int n : sizes) {
            x.row(3, 1, n);
            x.row(4, 1, 2);
            CHECK.due("drop of " + n, x.drop(3), n);
            CHECK.due("status", x.status(), 0);
            CHECK.due("rows", x.count(0), 1);
            CHECK.due("it is missing", x.set(3, 0, 0), Finding.NULL);
            CHECK.due("it is missing for copies", x.copy(3, 0, 4, 0, 0), Finding.NULL);
            CHECK.due("the other stays", x.set(4, 1, 5), 5);
        }
    }

    private static void droppingIsRefused() {
        CourtWash x = new CourtWash();
        x.row(0, 0, 1);
        for (int row : new int[] {-1, 8, LEAST, MOST}) {
            CHECK.due("drop " + row, x.drop(row), CourtWash.BAD);
        }
        CHECK.due("status behind BAD", x.status(), 0);
        CHECK.due("drop of none", x.drop(1), Finding.NULL);
        CHECK.due("status of null", x.status(), 1);
        x.drop(0);
        CHECK.due("drop again", x.drop(0), Finding.NULL);
        CHECK.due("status of null again", x.status(), 1);
    }
}
