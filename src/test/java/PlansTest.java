/** DRY in Terms 2, ALL DRY and PLAN in Terms 3, and promises 15, 16: dry, plan. */
public final class PlansTest {
    private static final int BAD = CourtWash.BAD, STATE = CourtWash.STATE, NONE = CourtWash.NONE;
    private static final int LEAST = Integer.MIN_VALUE, MOST = Integer.MAX_VALUE;
    private static final Check CHECK = new Check("PlansTest");

    public static void main(String[] args) {
        CHECK.words("DRY: WET 0.", PlansTest::dryIsWetZero);
        CHECK.words("ALL DRY: in how many QUARTERS all that HANGS is DRY, as it hangs", PlansTest::allDryIsForetold);
        CHECK.words("(0 on; 96 at most; NONE).", PlansTest::allDryIsWithin96);
        CHECK.words("ALL DRY; NONE. STATE: no COURT.", PlansTest::dryNeedsACourt);
        CHECK.words("PLAN for the first n PIECES (1 to 4;", PlansTest::plansAreForOneToFour);
        CHECK.words("none of these HANGS, else NONE):", PlansTest::plansAreForWhatIsDown);
        CHECK.words("on which LINE each is to be HUNG now,", PlansTest::plansAreForNow);
        CHECK.words("so that all of these are DRY soonest,", PlansTest::plansAreSoonest);
        CHECK.words("none of them newly STAINED,", PlansTest::plansKeepStainsOff);
        CHECK.words("each as told for HANGING, one by one:", PlansTest::plansAreHangings);
        CHECK.words("in how many QUARTERS (48 at most);", PlansTest::plansAreWithin48);
        CHECK.words("the LINES; of several the first row by numbers; NONE.", PlansTest::theFirstRowCounts);
        CHECK.words("PLAN: in how many QUARTERS (k = -1), the LINE of PIECE k; NONE.", PlansTest::timesAndLinesAreTold);
        CHECK.words("BAD: n above how many there are, k not below n, below -1;", PlansTest::plansAreRefused);
        CHECK.words("STATE: no COURT (ahead of BAD).", PlansTest::plansNeedACourt);
        CHECK.end();
    }

    private static void dryIsWetZero() {
        CourtWash x = Texts.courtOf(Texts.day("91") + "line 0 0 9;piece red 0 0 1;piece red 0 1 1;piece red 0 2 1;");
        x.hang(0, 0);
        CHECK.due("wet 0", x.dry(), 0);
        x.hang(1, 0);
        CHECK.due("wet 1", x.dry(), 1);
        x.hang(2, 0);
        CHECK.due("wet 2", x.dry(), 2);
        x.quarters(1);
        CHECK.due("wet 1 then", x.dry(), 1);
        x.quarters(1);
        CHECK.due("wet 0 then", x.dry(), 0);
    }

    private static void allDryIsForetold() {
        CourtWash x = Texts.courtOf(Texts.day("91") + "line 8 0 9;line 1 0 9;line 0 0 9;right 0 1 23 5;"
                + "piece black 0 33 1;piece black 0 1 1;piece black 0 3 1;piece wool 0 9 1;");
        CHECK.due("nothing hangs", x.dry(), 0);
        x.hang(1, 2);
        CHECK.due("one", x.dry(), 1);
        x.hang(2, 0);
        CHECK.due("the last counts", x.dry(), 3);
        x.hang(0, 1);
        CHECK.due("33 drips twice on what would be dry", x.dry(), 33);
        x.take(0);
        x.hang(0, 0);
        CHECK.due("a right of another does not take it in", x.dry(), 33);
        x.take(0);
        x.quarters(1);
        CHECK.due("one less", x.dry(), 2);
        x.take(2);
        x.hang(3, 2);
        CHECK.due("wool in the shade never dries", x.dry(), NONE);
        x.take(3);
        CHECK.due("what is down does not count", x.dry(), 0);
        CourtWash ten = Texts.courtOf(Texts.day("91") + Texts.linesOf(2) + "piece sock 0 0 1;" + "piece red 0 3 1;".repeat(8) + "piece red 0 7 1;");
        for (int p = 0; p < 10; p++) {
            ten.hang(p, p % 2);
        }
        CHECK.due("the last of ten pieces", ten.dry(), 7);
        CourtWash y = Texts.courtOf(Texts.day("93") + "line 1 0 9;line 0 0 9;piece black 0 40 1;piece black 0 1 1;");
        Texts.hang(y, 0, 1);
        CHECK.due("dry at times, but not together", y.dry(), 14);
    }

    private static void allDryIsWithin96() {
        CourtWash x = Texts.courtOf(Texts.day("91") + "line 0 0 9;piece red 0 95 1;piece red 0 96 1;piece red 0 97 1;");
        int[] times = {95, 96, NONE};
        for (int p = 0; p < 3; p++) {
            x.hang(p, 0);
            CHECK.due("wet by " + (95 + p), x.dry(), times[p]);
            x.take(p);
        }
        x.hang(2, 0);
        x.quarters(1);
        CHECK.due("97, one quarter later", x.dry(), 96);
        CourtWash late = Texts.courtOf(Texts.dayBut(23, "95", "90") + "line 0 0 9;piece red 0 20 1;piece red 0 21 1;");
        late.hang(0, 0);
        CHECK.due("the last quarter of the fourth day", late.dry(), 96);
        late.hang(1, 0);
        CHECK.due("that of the fifth", late.dry(), NONE);
        late.quarters(23);
        CHECK.due("ahead of the last of the first", late.dry(), NONE);
        late.quarters(1);
        CHECK.due("behind it", late.dry(), 96);
        late.quarters(1);
        CHECK.due("four days, all but one quarter", late.dry(), 95);
        CourtWash still = Texts.courtOf(Texts.STILL + "line 0 0 9;piece red 0 1 1;");
        still.hang(0, 0);
        CHECK.due("never", still.dry(), NONE);
    }

    private static void dryNeedsACourt() {
        CourtWash x = new CourtWash();
        CHECK.due("no court", x.dry(), STATE);
        Texts.read(x, "day 100");
        CHECK.due("no court behind a fault", x.dry(), STATE);
        Texts.read(x, Texts.STILL + "line 0 0 9;");
        CHECK.due("a court without pieces", x.dry(), 0);
    }

    /** The time of a plan, and its LINES (where it is NONE, there are none). */
    private static void plan(String what, CourtWash x, int n, int time, int... lines) {
        CHECK.due(what, x.plan(n, -1), time);
        for (int k = 0; k < n; k++) {
            CHECK.due(what + ", piece " + k, x.plan(n, k), time == NONE ? NONE : lines[k]);
        }
    }

    private static void plansAreForOneToFour() {
        CourtWash x = Texts.courtOf(Texts.day("91") + "line 0 0 1;line 0 1 1;line 0 2 1;line 0 3 1;line 9 0 1;"
                + "piece red 0 9 1;piece red 0 8 1;piece red 0 7 1;piece red 0 6 1;piece red 0 5 1;");
        plan("one", x, 1, 3, 4);
        plan("two", x, 2, 8, 4, 0);
        plan("three", x, 3, 8, 4, 0, 1);
        plan("four", x, 4, 8, 4, 0, 1, 2);
        for (int n : new int[] {0, 5, -1, LEAST, MOST}) {
            CHECK.due("plan of " + n, x.plan(n, -1), BAD);
        }
        CourtWash few = Texts.courtOf(Texts.day("91") + "line 0 0 1;piece red 0 9 1;");
        plan("the only one", few, 1, 9, 0);
        for (int n = 2; n <= 5; n++) {
            CHECK.due("plan of " + n + " where there is one", few.plan(n, -1), BAD);
        }
        CourtWash empty = Texts.courtOf(Texts.day("91") + "line 0 0 1;");
        CHECK.due("plan of 1 where there is none", empty.plan(1, -1), BAD);
        CHECK.due("plan of 0 where there is none", empty.plan(0, -1), BAD);
    }

    private static void plansAreForWhatIsDown() {
        String court = Texts.day("91") + "line 0 0 9;line 0 1 9;" + "piece red 0 5 1;".repeat(5);
        for (int n = 1; n <= 4; n++) {
            for (int hung = 0; hung < 5; hung++) {
                CourtWash x = Texts.courtOf(court);
                x.hang(hung, 1);
                plan(hung + " hangs, plan of " + n, x, n, hung < n ? NONE : 5, 0, 0, 0, 0);
                x.take(hung);
                plan("it is down again, plan of " + n, x, n, 5, 0, 0, 0, 0);
            }
        }
        CourtWash dry = Texts.courtOf(Texts.day("91") + "line 0 0 9;piece red 0 0 1;");
        plan("dry and down", dry, 1, 0, 0);
        dry.hang(0, 0);
        plan("dry, but it hangs", dry, 1, NONE);
    }

    private static void plansAreForNow() {
        CourtWash x = Texts.courtOf(Texts.day("92") + "line 0 0 9;line 0 1 9;right 0 1 2 5;right 1 2 2 5;piece red 0 4 1;");
        plan("no right in 0, one in 1", x, 1, 2, 0);
        x.quarters(1);
        plan("a right in 1", x, 1, 2, 1);
        x.quarters(1);
        plan("rights to both in 2", x, 1, NONE);
        x.quarters(1);
        plan("none in 3", x, 1, 2, 0);
        x.quarters(22);
        plan("a right in 1 of the next day", x, 1, 2, 1);
        CourtWash sun = Texts.courtOf(Texts.dayBut(2, "5", "91") + "line 0 0 9;piece red 0 3 1;");
        int[] times = {3, 2, 1, 3};
        for (int q = 0; q < times.length; q++) {
            plan("sun in 2, now it is " + q, sun, 1, times[q], 0);
            sun.quarters(1);
        }
    }

    private static void plansAreSoonest() {
        String lines = "line 0 0 9;line 5 0 9;line 9 0 9;line 5 1 2;";
        CourtWash x = Texts.courtOf(Texts.day("51") + lines + "piece wool 0 9 1;piece black 0 12 1;piece sheet 0 3 2;piece sock 0 1 2;");
        plan("a sunny floor", x, 1, 9, 1);
        plan("two", x, 2, 9, 1, 1);
        plan("a sheet in the shade is dry soon enough", x, 3, 9, 1, 1, 0);
        plan("a sock in the shade is not", x, 4, 9, 1, 1, 0, 1);
        CourtWash hung = Texts.courtOf(Texts.day("92") + "line 5 0 1;line 1 0 9;line 1 1 9;piece sock 0 0 1;piece red 0 9 1;piece black 0 90 1;");
        hung.hang(2, 0);
        plan("dry ones are dry at once", hung, 1, 0, 1);
        plan("away from what drips", hung, 2, 5, 2, 2);
        CourtWash wide = Texts.courtOf(Texts.day("70") + Texts.linesOf(8) + "piece red 0 8 1;piece red 0 8 9;");
        plan("the last of eight lines", wide, 1, 4, 7);
        plan("it is wanted by two", wide, 2, NONE);
        CourtWash drip = Texts.courtOf(Texts.day("92") + "line 5 0 9;line 1 0 9;line 1 1 4;piece black 0 40 5;piece black 0 38 5;");
        plan("below one another, as there is no other way", drip, 2, 25, 0, 1);
        CourtWash column = Texts.courtOf(Texts.day("92") + "line 5 0 9;line 1 0 9;line 1 1 5;piece black 0 40 5;piece black 0 38 5;");
        plan("in two columns", column, 2, 20, 0, 2);
        CourtWash others = Texts.courtOf(Texts.day("99") + "line 0 0 9;piece red 0 9 1;piece red 0 99 1;");
        others.hang(1, 0);
        plan("others need not be dry", others, 1, 1, 0);
    }

    private static void plansKeepStainsOff() {
        String court = Texts.day("9") + "line 5 0 1;line 1 0 9;";
        CourtWash x = Texts.courtOf(court + "piece wool 0 90 1;piece red 0 90 1;");
        plan("red below", x, 2, 10, 0, 1);
        x = Texts.courtOf(court + "piece red 0 90 1;piece wool 0 90 1;");
        plan("red below, though it comes first", x, 2, 10, 1, 0);
        String narrow = Texts.day("9") + "line 5 0 1;line 1 0 1;";
        x = Texts.courtOf(narrow + "piece red 0 90 1;piece black 0 90 1;");
        plan("black may hang below red", x, 2, 10, 0, 1);
        x = Texts.courtOf(Texts.day("99") + "line 5 0 1;line 1 0 2;piece red 0 90 1;piece sock 0 20 2;");
        plan("a sock has room only below red", x, 2, NONE);
        x = Texts.courtOf(Texts.day("99") + "line 5 0 1;line 1 0 2;piece red 0 39 1;piece sock 0 20 2;");
        plan("red that is too dry to drip", x, 2, 5, 0, 1);
        x = Texts.courtOf(Texts.day("99") + "line 5 0 1;line 1 0 2;piece red 0 40 1;piece sock 0 20 2;");
        plan("red that drips once", x, 2, NONE);
        x = Texts.courtOf(narrow + "piece wool 0 20 1;piece red 0 90 1;");
        x.hang(1, 0);
        plan("only below a red one that hangs", x, 1, NONE);
        x.hang(0, 1);
        x.quarters(1);
        CHECK.due("it is stained", x.piece(0, 2), 1);
        x.take(0);
        plan("what was stained is not newly stained", x, 1, 5, 1);
        x = Texts.courtOf(narrow + "piece red 0 90 1;piece wool 0 90 1;");
        x.hang(1, 1);
        plan("another one may be stained", x, 1, 9, 0);
        x = Texts.courtOf(narrow + "piece wool 0 0 1;piece red 0 90 1;");
        x.hang(1, 0);
        plan("dry at once, ahead of a stain", x, 1, 0, 1);
    }

    private static void plansAreHangings() {
        CourtWash x = Texts.courtOf(Texts.day("9") + "line 0 0 2;line 0 1 2;line 0 2 1;right 0 0 0 1;right 1 1 1 0;"
                + "piece red 0 1 2;piece red 1 1 2;piece red 2 1 1;piece red 0 1 1;");
        plan("rights", x, 2, 1, 1, 0);
        plan("room", x, 3, 1, 1, 0, 2);
        plan("no room for the fourth", x, 4, NONE);
        x.quarters(1);
        plan("other rights", x, 2, 1, 1, 0);
        plan("one is free", x, 1, 1, 0);
        x.quarters(1);
        plan("no rights", x, 2, 1, 0, 1);
        x.hang(3, 2);
        plan("what hangs takes room", x, 3, NONE);
        plan("but not for these", x, 2, 1, 0, 1);
        CourtWash sheets = Texts.courtOf(Texts.day("9") + "line 0 0 9;line 0 1 9;line 0 2 1;piece sheet 0 1 2;piece sock 0 1 2;piece red 0 1 1;piece sheet 0 1 1;");
        plan("beside a sheet hangs nothing", sheets, 2, 1, 0, 1);
        plan("but two may hang together", sheets, 3, 1, 0, 1, 1);
        plan("a second sheet", sheets, 4, 1, 0, 1, 1, 2);
        sheets.hang(3, 0);
        plan("beside one that hangs", sheets, 1, 1, 1);
        plan("no line is left", sheets, 2, NONE);
    }

    private static void plansAreWithin48() {
        CourtWash x = Texts.courtOf(Texts.day("91") + "line 0 0 9;piece red 0 47 1;piece red 0 48 1;piece red 0 49 1;");
        plan("47", x, 1, 47, 0);
        plan("48", x, 2, 48, 0, 0);
        plan("49", x, 3, NONE);
        CHECK.due("hung it is dry all the same", x.hang(2, 0) * 100 + x.dry(), 849);
        CourtWash two = Texts.courtOf(Texts.dayBut(23, "95", "90") + "line 0 0 9;piece red 0 10 1;piece red 0 11 1;");
        plan("the last quarter of the second day", two, 1, 48, 0);
        plan("that of the third", two, 2, NONE);
        CourtWash dry = Texts.courtOf(Texts.STILL + "line 0 0 9;piece red 0 0 1;piece red 0 1 1;");
        plan("0", dry, 1, 0, 0);
        plan("never", dry, 2, NONE);
    }

    private static void theFirstRowCounts() {
        String lines = "line 0 0 3;line 1 0 3;line 2 0 3;";
        CourtWash x = Texts.courtOf(Texts.day("1") + lines + "piece sheet 0 3 3;piece sheet 0 3 2;piece sheet 0 3 1;");
        plan("one", x, 1, 1, 0);
        plan("two", x, 2, 1, 0, 1);
        plan("three", x, 3, 1, 0, 1, 2);
        CourtWash y = Texts.courtOf(Texts.day("1") + lines + "piece red 0 3 2;piece red 0 3 2;piece red 0 3 1;piece red 0 3 1;");
        plan("as many as fit on 0", y, 4, 1, 0, 1, 0, 1);
        CourtWash z = Texts.courtOf(Texts.day("20") + lines + "piece sock 0 0 1;piece red 0 2 3;piece sock 0 0 1;");
        plan("the second needs the sun", z, 2, 1, 0, 2);
        plan("the third does not", z, 3, 1, 0, 2, 0);
        CourtWash late = Texts.courtOf(Texts.day("20") + lines + "piece red 0 2 2;piece red 0 2 2;");
        plan("there is sun for one only", late, 2, NONE);
    }

    private static void timesAndLinesAreTold() {
        CourtWash x = Texts.courtOf(Texts.day("91") + "line 0 0 1;line 0 1 1;line 0 2 1;line 0 3 1;"
                + "piece red 0 7 1;piece red 0 6 1;piece red 0 5 1;piece red 0 4 1;piece wool 0 9 1;");
        for (int n = 1; n <= 4; n++) {
            CHECK.due("time of " + n, x.plan(n, -1), 7);
            for (int k = 0; k < n; k++) {
                CHECK.due("line of " + k + " of " + n, x.plan(n, k), k);
            }
        }
        CourtWash y = Texts.courtOf(Texts.day("91") + "line 0 0 1;piece wool 0 9 1;piece red 0 1 1;");
        for (int k = -1; k < 2; k++) {
            CHECK.due("NONE, " + k, y.plan(2, k), NONE);
        }
    }

    private static void plansAreRefused() {
        CourtWash x = Texts.courtOf(Texts.day("9") + "line 0 0 9;piece red 0 1 1;piece red 0 1 1;");
        int[][] wrong = {{0, -1}, {-1, -1}, {5, -1}, {3, -1}, {3, 0}, {2, 2}, {2, 3}, {1, 1}, {2, -2}, {1, -2}, {0, 0},
            {MOST, 0}, {LEAST, 0}, {2, LEAST}, {2, MOST}};
        for (int[] w : wrong) {
            CHECK.due("plan " + w[0] + " " + w[1], x.plan(w[0], w[1]), BAD);
        }
        CHECK.due("1 of 2", x.plan(2, 1), 0);
        x.hang(0, 0);
        CHECK.due("BAD ahead of NONE", x.plan(2, 2), BAD);
        CHECK.due("BAD ahead of NONE again", x.plan(3, -1), BAD);
    }

    private static void plansNeedACourt() {
        CourtWash x = new CourtWash();
        int[][] calls = {{1, -1}, {1, 0}, {0, -1}, {5, 7}, {1, -2}};
        for (int[] c : calls) {
            CHECK.due("no court, plan " + c[0] + " " + c[1], x.plan(c[0], c[1]), STATE);
        }
    }
}
