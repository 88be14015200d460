/** RINGS in Terms 3, and promise 19: rings. */
public final class RingsTest {
    private static final int BAD = CourtWash.BAD, STATE = CourtWash.STATE;
    private static final int LEAST = Integer.MIN_VALUE, MOST = Integer.MAX_VALUE;
    /** Where floor f is the least that has sun, line f less 4 is the least of the sunny ones. */
    private static final String LINES = "line 4 0 9;line 5 0 9;line 6 0 9;line 7 0 9;line 8 0 9;line 9 0 9;";
    private static final Check CHECK = new Check("RingsTest");

    public static void main(String[] args) {
        CHECK.words("RINGS: n PEOPLE (2 to 6):", RingsTest::thereAreTwoToSixPeople);
        CHECK.words("person k has the LINE that a row tells (unlike ones);", RingsTest::linesAreUnlike);
        CHECK.words("he likes LINES by in how many of the QUARTERS", RingsTest::linesAreLikedBySun);
        CHECK.words("4 k to 4 k and 3 they have sun,", RingsTest::eachHasFourQuarters);
        CHECK.words("of like ones the lesser number first.", RingsTest::ofLikeOnesTheLesser);
        CHECK.words("Again and again each who is left points at who is left and has what he likes most of that;", RingsTest::againAndAgain);
        CHECK.words("who stand in a ring (one alone, too) get what they pointed at, and go: who gets which LINE.", RingsTest::ringsChange);
        CHECK.words("RINGS, n LINES, ITEMS of a ROW from its beginning on: who (0 on) gets which.", RingsTest::rowsAreReadFromTheirBeginning);
        CHECK.words("BAD: ROW, n, who; STATE: no COURT (ahead of BAD); NULL; PLACE;", RingsTest::ringsAreRefused);
        CHECK.words("then BAD: an ITEM that is no LINE, or told twice.", RingsTest::itemsAreLines);
        CHECK.end();
    }

    /** A COURT with LINES: person k likes most what has sun from a floor on. */
    private static CourtWash courtOf(int... leastFloors) {
        StringBuilder day = new StringBuilder("day");
        for (int k = 0; k < 6; k++) {
            day.append((" " + (k < leastFloors.length ? leastFloors[k] : 9) + "0").repeat(4));
        }
        return Texts.courtOf(day + ";" + LINES);
    }

    private static void gets(String what, CourtWash x, int n, int... lines) {
        for (int k = 0; k < n; k++) {
            CHECK.due(what + ", person " + k, x.rings(0, n, k), lines[k]);
        }
    }

    private static void thereAreTwoToSixPeople() {
        CourtWash x = courtOf(5, 6, 7, 8, 9, 4);
        Texts.rowOf(x, 0, 0, 1, 2, 3, 4, 5, 6);
        for (int n = 2; n <= 5; n++) {
            for (int k = 0; k < n; k++) {
                CHECK.that(n + " people, person " + k, x.rings(0, n, k) >= 0);
            }
        }
        gets("six", x, 6, 1, 2, 3, 4, 5, 0);
        for (int n : new int[] {1, 0, -1, 7, LEAST, MOST}) {
            CHECK.due(n + " people", x.rings(0, n, 0), BAD);
        }
    }

    private static void linesAreUnlike() {
        CourtWash x = courtOf(4, 4, 4, 4, 4, 4);
        Texts.rowOf(x, 0, 5, 3, 1);
        gets("unlike ones", x, 3, 5, 3, 1);
        for (int a = 0; a < 6; a++) {
            for (int b = a + 1; b < 6; b++) {
                Texts.rowOf(x, 0, 0, 1, 2, 3, 4, 5);
                x.set(0, b, a);
                CHECK.due(a + " told twice", x.rings(0, 6, 0), BAD);
            }
        }
        Texts.rowOf(x, 0, 0, 1, 0);
        CHECK.due("told twice, but not among two", x.rings(0, 2, 1), 1);
        CHECK.due("among three it is", x.rings(0, 3, 1), BAD);
    }

    /** Person 1 likes the lesser number: two change just if person 0 likes the greater. */
    private static void linesAreLikedBySun() {
        CourtWash x = Texts.courtOf("day 50 60 70 80" + " 40".repeat(20) + ";" + LINES);
        int[] sunny = {0, 1, 2, 3, 4, 4};
        for (int a = 0; a < 6; a++) {
            for (int b = a + 1; b < 6; b++) {
                Texts.rowOf(x, 0, a, b);
                boolean change = sunny[b] > sunny[a];
                gets("lines " + a + " and " + b, x, 2, change ? b : a, change ? a : b);
            }
        }
        x.quarters(7);
        Texts.rowOf(x, 0, 0, 5);
        gets("it does not matter what quarter it is", x, 2, 5, 0);
    }

    /**
     * Line 5 alone has sun, in QUARTER q alone: it is liked most by the one whose QUARTER that is, all others like the
     * lesser numbers. So he gets it, and who had it gets his.
     */
    private static void eachHasFourQuarters() {
        for (int q = 0; q < 24; q++) {
            CourtWash x = Texts.courtOf(Texts.dayBut(q, "50", "90") + Texts.linesOf(6));
            int who = q / 4;
            int[] up = {0, 1, 2, 3, 4, 5};
            Texts.rowOf(x, 0, up);
            up[5] = up[who];
            up[who] = 5;
            gets("sun in " + q, x, 6, up);
            int[] down = {5, 4, 3, 2, 1, 0};
            Texts.rowOf(x, 0, down);
            down[0] = down[who];
            down[who] = 5;
            gets("sun in " + q + ", the other way", x, 6, down);
        }
    }

    private static void ofLikeOnesTheLesser() {
        CourtWash x = courtOf(4, 4, 4, 4, 4, 4);
        int[][] rows = {{0, 1, 2, 3, 4, 5}, {5, 4, 3, 2, 1, 0}, {3, 0, 5, 1, 4, 2}};
        for (int[] row : rows) {
            Texts.rowOf(x, 0, row);
            gets("all like the lesser", x, 6, row);
        }
        CourtWash y = courtOf(4, 9);
        Texts.rowOf(y, 0, 5, 0);
        gets("one likes the lesser, one the other", y, 2, 0, 5);
        CourtWash z = courtOf(7, 4);
        Texts.rowOf(z, 0, 1, 4);
        gets("none of two has sun", courtBelow(), 2, 1, 2);
        gets("one of two has sun", z, 2, 4, 1);
    }

    /** LINES without sun for all. */
    private static CourtWash courtBelow() {
        CourtWash x = Texts.courtOf(Texts.STILL + "line 4 0 9;line 5 0 9;line 6 0 9;");
        Texts.rowOf(x, 0, 1, 2);
        return x;
    }

    private static void againAndAgain() {
        CourtWash x = courtOf(4, 4, 6);
        Texts.rowOf(x, 0, 0, 2, 1);
        gets("a ring of two, once the first has gone", x, 3, 0, 1, 2);
        CourtWash y = courtOf(4, 4, 4, 9, 8);
        Texts.rowOf(y, 0, 2, 1, 0, 4, 5);
        gets("three alone, one behind the other, and a ring of two", y, 5, 2, 1, 0, 5, 4);
        CourtWash z = courtOf(9, 9, 9, 9, 9, 4);
        Texts.rowOf(z, 0, 0, 1, 2, 3, 4, 5);
        gets("all like what one has, he likes the first's; then all like the least", z, 6, 5, 1, 2, 3, 4, 0);
        CourtWash late = courtOf(4, 4, 5, 6, 7, 4);
        Texts.rowOf(late, 0, 0, 4, 1, 2, 3, 5);
        gets("all alone but the last two", late, 6, 0, 4, 1, 2, 3, 5);
        CourtWash chain = courtOf(4, 4, 7, 4);
        Texts.rowOf(chain, 0, 0, 2, 1, 3);
        gets("who points at one that goes, points anew", chain, 4, 0, 2, 3, 1);
    }

    private static void ringsChange() {
        CourtWash six = courtOf(5, 6, 7, 8, 9, 4);
        Texts.rowOf(six, 0, 0, 1, 2, 3, 4, 5);
        gets("a ring of six", six, 6, 1, 2, 3, 4, 5, 0);
        CourtWash three = courtOf(5, 4, 7, 8, 6, 9);
        Texts.rowOf(three, 0, 0, 1, 2, 3, 4, 5);
        gets("a ring of two, one of three, one alone", three, 6, 1, 0, 3, 4, 2, 5);
        CourtWash alone = courtOf(4, 5, 6, 7, 8, 9);
        Texts.rowOf(alone, 0, 0, 1, 2, 3, 4, 5);
        gets("six alone", alone, 6, 0, 1, 2, 3, 4, 5);
        CourtWash two = courtOf(5, 4);
        Texts.rowOf(two, 0, 0, 1);
        gets("a ring of two", two, 2, 1, 0);
    }

    private static void rowsAreReadFromTheirBeginning() {
        CourtWash x = courtOf(5, 4, 6);
        for (int lane = 0; lane < 3; lane++) {
            Texts.rowOfLane(x, 0, lane, 0, 1, 77, -1);
            gets("two of four items, lane " + lane, x, 2, 1, 0);
            CHECK.due("status", x.status(), 0);
        }
        Texts.rowOf(x, 0, 2, 0, 1);
        gets("just three items", x, 3, 1, 0, 2);
        for (int who : new int[] {-1, 3, LEAST, MOST}) {
            CHECK.due("person " + who, x.rings(0, 3, who), BAD);
        }
        CHECK.due("person 2 of two", x.rings(0, 2, 2), BAD);
    }

    private static void ringsAreRefused() {
        CourtWash x = new CourtWash();
        Texts.rowOf(x, 0, 0, 1);
        int[][] calls = {{0, 2, 0}, {8, 2, 0}, {1, 2, 0}, {0, 9, 9}, {0, 3, 0}};
        for (int[] c : calls) {
            CHECK.due("no court, rings " + c[0] + " " + c[1] + " " + c[2], x.rings(c[0], c[1], c[2]), STATE);
        }
        Texts.read(x, Texts.STILL + LINES);
        int[][] wrong = {{8, 2, 0}, {-1, 2, 0}, {LEAST, 2, 0}, {MOST, 2, 0}, {0, 1, 0}, {0, 7, 0}, {0, 0, 0}, {0, LEAST, 0},
            {0, MOST, 0}, {0, 2, 2}, {0, 2, -1}, {0, 2, LEAST}, {0, 2, MOST}, {3, 1, 0}, {3, 7, 0}, {3, 2, 2}, {0, 6, 6}};
        for (int[] w : wrong) {
            CHECK.due("rings " + w[0] + " " + w[1] + " " + w[2], x.rings(w[0], w[1], w[2]), BAD);
        }
        CHECK.due("status behind BAD", x.status(), 0);
        CHECK.due("no row", x.rings(3, 2, 0), Finding.NULL);
        CHECK.due("status of null", x.status(), 1);
        CHECK.due("too short by one", x.rings(0, 3, 0), Finding.PLACE);
        CHECK.due("status of place", x.status(), 2);
        CHECK.due("long enough", x.rings(0, 2, 0), 0);
        CHECK.due("status of none", x.status(), 0);
        x.row(1, 0, 0);
        CHECK.due("an empty row", x.rings(1, 2, 0), Finding.PLACE);
        x.set(0, 1, 99);
        CHECK.due("PLACE ahead of an item that is BAD", x.rings(0, 3, 0), Finding.PLACE);
    }

    private static void itemsAreLines() {
        CourtWash x = Texts.courtOf(Texts.STILL + "line 0 0 9;line 1 0 9;line 2 0 9;");
        for (int at = 0; at < 3; at++) {
            for (int w : new int[] {-1, 3, LEAST, MOST}) {
                Texts.rowOf(x, 0, 0, 1, 2);
                x.set(0, at, w);
                x.as(0, 0);
                x.drop(7);
                CHECK.due("item " + at + " is " + w, x.rings(0, 3, 0), BAD);
                CHECK.due("BAD leaves status", x.status(), 1);
            }
        }
        Texts.rowOf(x, 0, 2, 1, 0);
        gets("all three", x, 3, 2, 1, 0);
        Texts.rowOf(x, 0, 2, 1, 2);
        x.drop(7);
        CHECK.due("told twice", x.rings(0, 3, 0), BAD);
        CHECK.due("BAD leaves status", x.status(), 1);
        Texts.rowOf(x, 0, 1, 2, 3);
        gets("an item behind the last does not matter", x, 2, 1, 2);
    }
}
