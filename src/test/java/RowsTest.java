/** Promises 2 to 5: row, set, copy, drop; and status (28) of these. */
public final class RowsTest {
    private static final int NULL = -1000011, PLACE = -1000012, SIZE = -1000014, STORE = -1000015;
    private static final Check CHECK = new Check("RowsTest");

    public static void main(String[] args) {
        rowsAreMade();
        newRowsAreOfZeros();
        itemsAreCutToTheirLane();
        itemsAreCopied();
        copiesAreRefused();
        rowsAreDropped();
        CHECK.end();
    }

    private static void rowsAreMade() {
        CourtWash x = new CourtWash();
        CHECK.due("row of 0", x.row(0, 0, 0), 0);
        CHECK.due("row of 40", x.row(7, 2, 40), 40);
        CHECK.due("rows there", x.count(0), 2);
        CHECK.due("row of 41", x.row(1, 0, 41), CourtWash.BAD);
        CHECK.due("row 8", x.row(8, 0, 1), CourtWash.BAD);
        CHECK.due("row -1", x.row(-1, 0, 1), CourtWash.BAD);
        CHECK.due("lane 3", x.row(1, 3, 1), CourtWash.BAD);
        CHECK.due("lane -1", x.row(1, -1, 1), CourtWash.BAD);
        CHECK.due("lane 3 ahead of size", x.row(1, 3, -1), CourtWash.BAD);
        CHECK.due("rows there after refusals", x.count(0), 2);
        CHECK.due("size", x.row(7, 0, -1), SIZE);
        CHECK.due("status of size", x.status(), 4);
        CHECK.due("least size", x.row(7, 0, Integer.MIN_VALUE), SIZE);
        CHECK.due("row 7 stays", x.set(7, 39, 70000), 70000);
        CHECK.due("status after set", x.status(), 0);
        CHECK.due("row 7 anew", x.row(7, 1, 3), 3);
        CHECK.due("row 7 is shorter", x.set(7, 3, 1), PLACE);
        CHECK.due("its lane is another", x.set(7, 2, 40000), -25536);
    }

    /** ITEMS are seen by what is laid by them. */
    private static void newRowsAreOfZeros() {
        CourtWash x = Texts.courtOf(Texts.STILL + "line 0 0 9;piece red 0 0 1;");
        Texts.rowOf(x, 0, 0, 77);
        CHECK.due("no such line", x.lay(0, 1), CourtWash.BAD);
        x.row(0, 2, 2);
        CHECK.due("line 0", x.lay(0, 1), 1);
        x.set(0, 1, 77);
        x.drop(0);
        x.row(0, 2, 2);
        CHECK.due("line 0 again", x.lay(0, 1), 1);
    }

    private static void itemsAreCutToTheirLane() {
        CourtWash x = new CourtWash();
        x.row(0, 0, 2);
        x.row(1, 1, 2);
        x.row(2, 2, 2);
        int[] values = {0, 127, 128, 255, 256, -1, -129, 32767, 32768, 65535, 65536, -32769,
            Integer.MAX_VALUE, Integer.MIN_VALUE};
        for (int v : values) {
            CHECK.due("a byte of " + v, x.set(0, 1, v), (byte) v);
            CHECK.due("a short of " + v, x.set(1, 1, v), (short) v);
            CHECK.due("an int of " + v, x.set(2, 1, v), v);
        }
        CHECK.due("set in row 8", x.set(8, 0, 0), CourtWash.BAD);
        CHECK.due("set in row -1", x.set(-1, 0, 0), CourtWash.BAD);
        CHECK.due("set in none", x.set(3, 0, 0), NULL);
        CHECK.due("status of null", x.status(), 1);
        CHECK.due("set at 2", x.set(0, 2, 0), PLACE);
        CHECK.due("status of place", x.status(), 2);
        CHECK.due("set at -1", x.set(0, -1, 0), PLACE);
        CHECK.due("set far off", x.set(0, Integer.MAX_VALUE, 0), PLACE);
        CHECK.due("BAD leaves status", x.set(9, 0, 0), CourtWash.BAD);
        CHECK.due("status behind BAD", x.status(), 2);
    }

    private static void itemsAreCopied() {
        CourtWash x = Texts.courtOf(Texts.STILL + "line 0 0 9;line 1 0 9;line 2 0 9;line 3 0 9;"
                + "piece red 0 0 1;piece red 0 0 1;piece red 0 0 1;piece red 0 0 1;");
        Texts.rowOf(x, 0, 0, 1, 2, 3);
        CHECK.due("copy onto itself, up", x.copy(0, 0, 0, 1, 3), 3);
        CHECK.due("laid", x.lay(0, 0), 4);
        checkLines(x, 0, 0, 1, 2);
        CHECK.due("copy onto itself, down", x.copy(0, 1, 0, 0, 3), 3);
        CHECK.due("laid", x.lay(0, 0), 4);
        checkLines(x, 0, 1, 2, 2);
        Texts.rowOf(x, 1, 3, 3, 3, 3, 3);
        CHECK.due("copy to another", x.copy(0, 1, 1, 3, 2), 2);
        CHECK.due("laid from 1", x.lay(1, 1), 4);
        checkLines(x, 3, 3, 1, 2);
        CHECK.due("copy of none at the ends", x.copy(0, 4, 1, 5, 0), 0);
        CHECK.due("laid again", x.lay(1, 1), 4);
        checkLines(x, 3, 3, 1, 2);
    }

    private static void checkLines(CourtWash x, int... lines) {
        for (int p = 0; p < lines.length; p++) {
            CHECK.due("line of piece " + p, x.piece(p, 1), lines[p]);
        }
    }

    private static void copiesAreRefused() {
        CourtWash x = new CourtWash();
        x.row(0, 0, 4);
        x.row(1, 0, 5);
        x.row(2, 1, 5);
        CHECK.due("from row 8", x.copy(8, 0, 0, 0, 0), CourtWash.BAD);
        CHECK.due("to row -1", x.copy(0, 0, -1, 0, 0), CourtWash.BAD);
        CHECK.due("BAD ahead of NULL", x.copy(3, 0, 9, 0, 0), CourtWash.BAD);
        CHECK.due("from none", x.copy(3, 0, 0, 0, 0), NULL);
        CHECK.due("to none", x.copy(0, 0, 3, 0, 0), NULL);
        CHECK.due("two lanes", x.copy(0, 0, 2, 0, 1), STORE);
        CHECK.due("status of store", x.status(), 5);
        CHECK.due("STORE ahead of PLACE", x.copy(0, -1, 2, 0, 1), STORE);
        CHECK.due("NULL ahead of PLACE", x.copy(0, -1, 3, 0, 1), NULL);
        int[][] wrong = {{-1, 0, 1}, {0, -1, 1}, {0, 0, -1}, {0, 0, 5}, {1, 0, 4}, {0, 2, 4}, {5, 0, 0}, {0, 6, 0},
            {Integer.MAX_VALUE, 0, 1}, {0, Integer.MAX_VALUE, 1}, {1, 1, Integer.MAX_VALUE},
            {0, 0, Integer.MIN_VALUE}, {Integer.MIN_VALUE, 0, Integer.MIN_VALUE}, {2, 2, Integer.MIN_VALUE}};
        for (int[] w : wrong) {
            CHECK.due("copy " + w[0] + " " + w[1] + " " + w[2], x.copy(0, w[0], 1, w[1], w[2]), PLACE);
            CHECK.due("status", x.status(), 2);
        }
        CHECK.due("copy of all", x.copy(0, 0, 1, 1, 4), 4);
        CHECK.due("status", x.status(), 0);
    }

    private static void rowsAreDropped() {
        CourtWash x = new CourtWash();
        x.row(3, 1, 17);
        CHECK.due("drop", x.drop(3), 17);
        CHECK.due("status", x.status(), 0);
        CHECK.due("it is missing", x.count(0), 0);
        CHECK.due("drop again", x.drop(3), NULL);
        CHECK.due("status of null", x.status(), 1);
        CHECK.due("drop 8", x.drop(8), CourtWash.BAD);
        CHECK.due("drop -1", x.drop(-1), CourtWash.BAD);
        x.row(3, 0, 0);
        CHECK.due("drop of an empty one", x.drop(3), 0);
    }
}
