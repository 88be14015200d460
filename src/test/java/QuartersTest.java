/** A QUARTER in Terms 2, and promise 11: quarters. */
public final class QuartersTest {
    private static final int LEAST = Integer.MIN_VALUE, MOST = Integer.MAX_VALUE;
    private static final String[] SORTS = {"red", "black", "wool", "sheet", "sock"};
    private static final Check CHECK = new Check("QuartersTest");

    public static void main(String[] args) {
        CHECK.words("1 each PIECE that HANGS dries:", QuartersTest::whatHangsDries);
        CHECK.words("by the wind, and 2 more, if its floor has sun,", QuartersTest::windAndSunDry);
        CHECK.words("but wool and socks by 2 less (0 at least);", QuartersTest::woolAndSocksDryLess);
        CHECK.words("WET is less by that, 0 at least.", QuartersTest::wetIsZeroAtLeast);
        CHECK.words("2 each that HANGS, and is of more than 30 WET then, DRIPS", QuartersTest::moreThan30Drips);
        CHECK.words("DRIPS on all that HANGS on the next LINE below in its COLUMN:", QuartersTest::dripsFallOnTheNextLine);
        CHECK.words("these have 3 more WET (99 at most),", QuartersTest::dripsWet);
        CHECK.words("and are STAINED, if the one that DRIPS is of SORT red (a black one stains nothing),", QuartersTest::onlyRedStains);
        CHECK.words("and they are no black or red ones.", QuartersTest::blackAndRedAreNotStained);
        CHECK.words("(All by what was WET ahead of 2.)", QuartersTest::dripsAreAddedAtOnce);
        CHECK.words("Then the next QUARTER begins.", QuartersTest::quartersFollowOneAnother);
        CHECK.words("n QUARTERS (1 to 96): QUARTERS gone in all.", QuartersTest::quartersAreCounted);
        CHECK.words("BAD; STATE: no COURT (ahead of BAD).", QuartersTest::quartersAreRefused);
        CHECK.end();
    }

    private static void wets(String what, CourtWash x, int... wets) {
        for (int p = 0; p < wets.length; p++) {
            CHECK.due(what + ", piece " + p, x.piece(p, 0), wets[p]);
        }
    }

    private static void stains(String what, CourtWash x, int... stains) {
        int sum = 0;
        for (int p = 0; p < stains.length; p++) {
            CHECK.due(what + ", stain of " + p, x.piece(p, 2), stains[p]);
            sum += stains[p];
        }
        CHECK.due(what + ", stained ones", x.count(5), sum);
    }

    private static void whatHangsDries() {
        CourtWash x = Texts.courtOf(Texts.day("9") + "line 0 0 9;piece red 0 30 1;piece red 0 30 1;piece red 0 30 1;");
        x.hang(1, 0);
        x.quarters(1);
        wets("one hangs", x, 30, 19, 30);
        x.take(1);
        x.quarters(2);
        wets("none hangs", x, 30, 19, 30);
        Texts.hang(x, 0, -1, 0);
        x.quarters(1);
        wets("two hang", x, 19, 19, 19);
    }

    /** By how much a PIECE of a SORT on floor 5 dries in a QUARTER. */
    private static int drying(String sort, int least, int wind) {
        CourtWash x = Texts.courtOf(Texts.day(least + "" + wind) + "line 5 0 9;piece " + sort + " 0 30 1;");
        x.hang(0, 0);
        x.quarters(1);
        return 30 - x.piece(0, 0);
    }

    private static void windAndSunDry() {
        for (int wind = 0; wind < 10; wind++) {
            for (String sort : new String[] {"red", "black", "sheet"}) {
                CHECK.due(sort + " above the least floor, wind " + wind, drying(sort, 4, wind), wind + 2);
                CHECK.due(sort + " on the least floor, wind " + wind, drying(sort, 5, wind), wind + 2);
                CHECK.due(sort + " below the least floor, wind " + wind, drying(sort, 6, wind), wind);
            }
        }
    }

    private static void woolAndSocksDryLess() {
        for (int wind = 0; wind < 10; wind++) {
            for (String sort : new String[] {"wool", "sock"}) {
                CHECK.due(sort + " in the sun, wind " + wind, drying(sort, 5, wind), wind);
                CHECK.due(sort + " in the shade, wind " + wind, drying(sort, 6, wind), wind < 2 ? 0 : wind - 2);
            }
        }
    }

    private static void wetIsZeroAtLeast() {
        CourtWash x = Texts.courtOf(Texts.day("3") + "line 0 0 9;piece red 0 0 1;piece red 0 4 1;piece red 0 5 1;piece red 0 6 1;"
                + "piece wool 0 2 1;piece sock 0 3 1;piece wool 0 4 1;");
        Texts.hang(x, 0, 0, 0, 0, 0, 0, 0);
        x.quarters(1);
        wets("once", x, 0, 0, 0, 1, 0, 0, 1);
        x.quarters(1);
        wets("twice", x, 0, 0, 0, 0, 0, 0, 0);
    }

    private static void moreThan30Drips() {
        for (int wet = 0; wet < 100; wet++) {
            CourtWash x = Texts.courtOf(Texts.day("92") + "line 5 0 9;line 4 0 9;piece black 0 " + wet + " 1;piece black 0 10 1;");
            Texts.hang(x, 0, 1);
            x.quarters(1);
            wets("wet by " + wet, x, Math.max(0, wet - 2), wet - 2 > 30 ? 11 : 8);
        }
        CourtWash x = Texts.courtOf(Texts.STILL + "line 5 0 9;line 4 0 9;piece black 0 31 1;piece black 0 10 1;");
        Texts.hang(x, -1, 1);
        x.quarters(1);
        wets("what is down drips not", x, 31, 10);
        x.hang(0, 0);
        x.take(1);
        x.quarters(1);
        wets("on what is down nothing drips", x, 31, 10);
    }

    private static void dripsFallOnTheNextLine() {
        CourtWash x = Texts.courtOf(Texts.STILL + "line 8 0 9;line 2 0 9;line 5 0 9;line 1 1 9;line 6 0 9;line 6 1 9;"
                + "piece black 0 99 1;piece black 0 0 1;piece black 0 0 1;piece black 0 0 1;piece black 0 0 1;piece black 0 0 1;piece black 0 0 1;");
        Texts.hang(x, 0, 0, 4, 4, 2, 3, 5);
        x.quarters(1);
        wets("all on the next line, none beside, farther down or in another column", x, 99, 0, 3, 3, 0, 0, 0);
        x.take(2);
        x.take(3);
        x.quarters(1);
        wets("an empty line is the next, too", x, 99, 0, 3, 3, 0, 0, 0);
        x.take(0);
        x.hang(0, 1);
        x.quarters(1);
        wets("below the lowest there is none, above it none gets wet", x, 99, 0, 3, 3, 0, 0, 0);
        x.take(0);
        x.hang(0, 5);
        x.quarters(1);
        wets("five floors below", x, 99, 0, 3, 3, 0, 3, 0);
        allLinesDrip();
    }

    /** Line i is on floor i: each drips on the one before it, the last on none. */
    private static void allLinesDrip() {
        CourtWash x = Texts.courtOf(Texts.STILL + Texts.linesOf(8) + "piece wool 0 50 1;" + "piece red 0 50 1;".repeat(6) + "piece wool 0 50 1;"
                + "piece sock 0 0 1;piece sheet 0 0 1;");
        Texts.hang(x, 0, 1, 2, 3, 4, 5, 6, 7, 0);
        x.quarters(1);
        wets("eight lines", x, 53, 53, 53, 53, 53, 53, 53, 50, 3, 0);
        stains("eight lines", x, 1, 0, 0, 0, 0, 0, 0, 0, 1, 0);
        x.take(0);
        x.take(8);
        x.take(1);
        x.hang(9, 0);
        x.quarters(1);
        wets("what fell before falls no more", x, 53, 53, 56, 56, 56, 56, 56, 50, 3, 0);
        stains("what ran before runs no more", x, 1, 0, 0, 0, 0, 0, 0, 0, 1, 0);
        x.take(7);
        x.hang(7, 1);
        x.quarters(1);
        wets("the last of ten pieces", x, 53, 53, 59, 59, 59, 59, 56, 53, 3, 3);
        stains("the last of ten pieces is wet, but clean", x, 1, 0, 0, 0, 0, 0, 0, 1, 1, 0);
    }

    private static void dripsWet() {
        int[] wets = {0, 1, 95, 96, 97, 98, 99};
        for (int many = 1; many <= 3; many++) {
            for (int wet : wets) {
                CourtWash x = Texts.courtOf(Texts.STILL + "line 3 0 9;line 2 0 9;piece black 0 " + wet + " 1;" + "piece black 0 31 1;".repeat(many));
                x.hang(0, 1);
                for (int p = 1; p <= many; p++) {
                    x.hang(p, 0);
                }
                x.quarters(1);
                CHECK.due(many + " drip on " + wet, x.piece(0, 0), Math.min(99, wet + 3 * many));
            }
        }
    }

    private static void onlyRedStains() {
        for (String sort : SORTS) {
            CourtWash x = Texts.courtOf(Texts.STILL + "line 3 0 9;line 2 0 9;line 1 0 9;piece " + sort + " 0 31 1;piece sheet 0 0 1;piece wool 0 0 1;");
            Texts.hang(x, 0, 1, 2);
            x.quarters(1);
            wets(sort + " above", x, 31, 3, 0);
            stains(sort + " above", x, 0, sort.equals("red") ? 1 : 0, 0);
        }
        CourtWash x = Texts.courtOf(Texts.STILL + "line 3 0 9;line 2 0 9;piece red 0 30 1;piece black 0 31 1;piece wool 0 0 1;");
        Texts.hang(x, 0, 0, 1);
        x.quarters(1);
        stains("a red one that does not drip, beside a black one that does", x, 0, 0, 0);
    }

    private static void blackAndRedAreNotStained() {
        for (String sort : SORTS) {
            boolean isStained = !sort.equals("red") && !sort.equals("black");
            CourtWash x = Texts.courtOf(Texts.STILL + "line 3 0 9;line 2 0 9;piece red 0 31 1;piece " + sort + " 0 0 1;");
            Texts.hang(x, 0, 1);
            x.quarters(1);
            wets(sort + " below", x, 31, 3);
            stains(sort + " below", x, 0, isStained ? 1 : 0);
            x.take(0);
            x.quarters(5);
            x.take(1);
            stains(sort + " stays so", x, 0, isStained ? 1 : 0);
        }
    }

    private static void dripsAreAddedAtOnce() {
        CourtWash x = Texts.courtOf(Texts.STILL + "line 3 0 9;line 2 0 9;line 1 0 9;"
                + "piece black 0 0 1;piece red 0 29 1;piece red 0 31 1;piece wool 0 0 1;");
        Texts.hang(x, 2, 1, 0, 2);
        x.quarters(1);
        wets("what falls makes nothing drip yet", x, 0, 32, 31, 0);
        stains("what falls makes nothing drip yet", x, 0, 0, 0, 0);
        x.quarters(1);
        wets("but then", x, 3, 35, 31, 3);
        stains("but then", x, 0, 0, 0, 1);
        CourtWash y = Texts.courtOf(Texts.day("91") + "line 3 0 9;line 2 0 9;line 1 0 9;piece black 0 32 1;piece black 0 31 1;piece black 0 31 1;");
        Texts.hang(y, 0, 1, 2);
        y.quarters(1);
        wets("first all dries, then all drips", y, 31, 33, 30);
    }

    private static void quartersFollowOneAnother() {
        CourtWash x = Texts.courtOf("day 31 32 33 43 23 94" + " 90".repeat(17) + " 95;line 3 0 9;piece red 0 60 1;piece wool 0 60 1;");
        Texts.hang(x, 0, 0);
        int[] red = {57, 53, 48, 45, 40, 36};
        int[] wool = {59, 57, 54, 53, 50, 48};
        for (int q = 0; q < red.length; q++) {
            x.quarters(1);
            wets("quarter " + q, x, red[q], wool[q]);
        }
        x.quarters(17);
        wets("up to the last", x, 36, 48);
        x.quarters(1);
        wets("the last of the day", x, 31, 45);
        x.quarters(1);
        wets("the first of the next", x, 28, 44);
        CourtWash at = Texts.courtOf("day 31 32 33 43 23 94" + " 90".repeat(17) + " 95;line 3 0 9;piece red 0 60 1;piece wool 0 60 1;");
        Texts.hang(at, 0, 0);
        at.quarters(25);
        wets("all at once", at, 28, 44);
    }

    private static void quartersAreCounted() {
        CourtWash x = Texts.courtOf(Texts.STILL + "line 0 0 9;");
        CHECK.due("one", x.quarters(1), 1);
        CHECK.due("96", x.quarters(96), 97);
        CHECK.due("95", x.quarters(95), 192);
        CHECK.due("two", x.quarters(2), 194);
        CHECK.due("gone", x.count(6), 194);
    }

    private static void quartersAreRefused() {
        CourtWash x = new CourtWash();
        for (int n : new int[] {1, 96, 0, 97, -1, LEAST, MOST}) {
            CHECK.due("no court, " + n, x.quarters(n), CourtWash.STATE);
        }
        Texts.read(x, Texts.STILL + "line 0 0 9;");
        for (int n : new int[] {0, 97, -1, LEAST, MOST}) {
            CHECK.due("quarters of " + n, x.quarters(n), CourtWash.BAD);
        }
        CHECK.due("none has gone", x.count(6), 0);
    }
}
