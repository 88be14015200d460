/** WHOSE, SUN and RAIN in Terms 3, and promises 17, 18, 20 to 22: whose, sun, rain, image, restore. */
public final class ForetoldTest {
    private static final int BAD = CourtWash.BAD, STATE = CourtWash.STATE, NONE = CourtWash.NONE;
    private static final int LEAST = Integer.MIN_VALUE, MOST = Integer.MAX_VALUE;
    private static final Check CHECK = new Check("ForetoldTest");

    public static void main(String[] args) {
        CHECK.words("WHOSE: PIECES (bits) that can have fallen to a floor in a COLUMN: that HANG on a LINE of that COLUMN above it,",
                ForetoldTest::whatHangsAboveCanFall);
        CHECK.words("and are no more than 3 YARDS.", ForetoldTest::upToThreeYardsCanFall);
        CHECK.words("WHOSE. BAD: floor 0 to 9, COLUMN; STATE: no COURT (ahead of BAD).", ForetoldTest::whoseIsRefused);
        CHECK.words("SUN of a LINE: QUARTERS of the day in which it has sun;", ForetoldTest::sunIsCounted);
        CHECK.words("with a ROOF of h (0 to 9) over the way: the least floor that has sun is h more.", ForetoldTest::roofsTakeSun);
        CHECK.words("SUN of a LINE with a ROOF of h. BAD.", ForetoldTest::sunIsRefused);
        CHECK.words("RAIN: with p of 100 it begins in a QUARTER, each by itself;", ForetoldTest::rainComesWithP);
        CHECK.words("in each, ahead of that, one PIECE that HANGS is taken in,", ForetoldTest::oneIsTakenAheadOfRain);
        CHECK.words("those of most YARDS first, of like ones the least number first.", ForetoldTest::theWidestAreTakenFirst);
        CHECK.words("The one that is k-th (0 on) stays dry with D of k millionths: D of 0 is 1000000, that of k is D of (k less 1), times (100 less p), by 100;", ForetoldTest::staysDryByD);
        CHECK.words("how many YARDS get wet on the mean, in millionths: YARDS times (1000000 less D), added.", ForetoldTest::yardsAreAdded);
        CHECK.words("RAIN: YARDS in millionths (what = 0), the PIECE that is taken next (1; NONE).", ForetoldTest::rainTellsTwoThings);
        CHECK.words("BAD; STATE: no COURT (ahead of BAD).", ForetoldTest::rainIsRefused);
        CHECK.words("An IMAGE (0, 1) is kept of the COURT: 1.", ForetoldTest::imagesAreKept);
        CHECK.words("BAD; STATE: no COURT.", ForetoldTest::keepingIsRefused);
        CHECK.words("The COURT is as an IMAGE kept it: 1.", ForetoldTest::courtsAreRestored);
        CHECK.words("BAD; STATE: none was kept.", ForetoldTest::restoringIsRefused);
        CHECK.end();
    }

    private static void whatHangsAboveCanFall() {
        CourtWash x = Texts.courtOf(Texts.STILL + "line 5 3 9;line 6 3 9;line 9 2 9;line 0 0 9;"
                + "piece red 0 0 1;piece wool 0 0 1;piece sheet 0 0 1;piece sock 0 0 1;piece black 0 0 1;");
        Texts.hang(x, 0, 1, 2, -1, 3);
        for (int floor = 0; floor < 10; floor++) {
            CHECK.due("column 3, floor " + floor, x.whose(floor, 3), (floor < 5 ? 1 : 0) + (floor < 6 ? 2 : 0));
            CHECK.due("column 2, floor " + floor, x.whose(floor, 2), floor < 9 ? 4 : 0);
            CHECK.due("column 1, floor " + floor, x.whose(floor, 1), 0);
            CHECK.due("column 0, floor " + floor, x.whose(floor, 0), 0);
        }
        x.take(0);
        CHECK.due("what is down has not fallen", x.whose(0, 3), 2);
    }

    private static void upToThreeYardsCanFall() {
        for (int yards = 1; yards <= 9; yards++) {
            CourtWash x = Texts.courtOf(Texts.STILL + "line 1 0 9;piece red 0 0 " + yards + ";");
            x.hang(0, 0);
            CHECK.due(yards + " yards", x.whose(0, 0), yards <= 3 ? 1 : 0);
        }
    }

    private static void whoseIsRefused() {
        CourtWash x = new CourtWash();
        int[][] wrong = {{-1, 0}, {10, 0}, {0, -1}, {0, 4}, {LEAST, 0}, {MOST, 0}, {0, LEAST}, {0, MOST}};
        CHECK.due("no court", x.whose(0, 0), STATE);
        for (int[] w : wrong) {
            CHECK.due("no court, whose " + w[0] + " " + w[1], x.whose(w[0], w[1]), STATE);
        }
        Texts.read(x, Texts.STILL + "line 1 0 9;");
        for (int[] w : wrong) {
            CHECK.due("whose " + w[0] + " " + w[1], x.whose(w[0], w[1]), BAD);
        }
        CHECK.due("the last", x.whose(9, 3), 0);
        CHECK.due("the first", x.whose(0, 0), 0);
    }

    private static CourtWash courtWithSun() {
        return Texts.courtOf("day 9 10 20 30 40 50 60 70 80 99" + " 90".repeat(13) + " 40;line 0 0 9;line 5 0 9;line 9 0 9;");
    }

    private static void sunIsCounted() {
        CourtWash x = courtWithSun();
        int[] suns = {1, 7, 24};
        for (int l = 0; l < 3; l++) {
            CHECK.due("sun of " + l, x.sun(l, 0), suns[l]);
        }
        x.quarters(5);
        CHECK.due("of the day, not from now on", x.sun(1, 0), 7);
        for (int q = 0; q < 24; q++) {
            CourtWash one = Texts.courtOf(Texts.dayBut(q, "80", "90") + "line 8 0 9;");
            CHECK.due("sun in " + q + " alone", one.sun(0, 0), 1);
        }
    }

    private static void roofsTakeSun() {
        CourtWash x = courtWithSun();
        for (int h = 0; h <= 9; h++) {
            CHECK.due("floor 0, roof " + h, x.sun(0, h), h == 0 ? 1 : 0);
            CHECK.due("floor 5, roof " + h, x.sun(1, h), Math.max(0, 6 - h) + (h <= 1 ? 1 : 0));
            CHECK.due("floor 9, roof " + h, x.sun(2, h), h == 0 ? 24 : 10 - h + (h <= 5 ? 1 : 0));
        }
    }

    private static void sunIsRefused() {
        CourtWash x = new CourtWash();
        CHECK.due("no court", x.sun(0, 0), BAD);
        Texts.read(x, Texts.day("0") + "line 1 0 9;line 2 0 9;");
        int[][] wrong = {{2, 0}, {-1, 0}, {0, -1}, {0, 10}, {LEAST, 0}, {MOST, 0}, {0, LEAST}, {0, MOST}};
        for (int[] w : wrong) {
            CHECK.due("sun " + w[0] + " " + w[1], x.sun(w[0], w[1]), BAD);
        }
        CHECK.due("the last", x.sun(1, 9), 0);
        CHECK.due("the first", x.sun(0, 0), 24);
    }

    /** PIECES of 1 yard, so many of which hang. */
    private static CourtWash socks(int n) {
        CourtWash x = Texts.courtOf(Texts.STILL + "line 5 3 9;line 4 3 9;" + "piece sock 0 0 1;".repeat(10));
        for (int p = 0; p < n; p++) {
            x.hang(p, p % 2);
        }
        return x;
    }

    private static void rainComesWithP() {
        CourtWash x = socks(2);
        for (int p = 0; p <= 100; p++) {
            CHECK.due("rain with " + p, x.rain(p, 0), 10000 * p);
        }
        CHECK.due("rain with -1", x.rain(-1, 0), BAD);
        CHECK.due("rain with 101", x.rain(101, 0), BAD);
    }

    private static void oneIsTakenAheadOfRain() {
        CourtWash x = socks(0);
        CHECK.due("nothing hangs, nothing gets wet", x.rain(100, 0), 0);
        CHECK.due("nothing is taken", x.rain(100, 1), NONE);
        x.hang(9, 0);
        CHECK.due("one is taken in time", x.rain(100, 0), 0);
        CHECK.due("that one", x.rain(100, 1), 9);
        for (int n = 1; n <= 10; n++) {
            CHECK.due("all others get wet for sure: " + n, socks(n).rain(100, 0), 1000000 * (n - 1));
        }
    }

    private static void theWidestAreTakenFirst() {
        CourtWash x = Texts.courtOf(Texts.STILL + "line 5 3 9;line 6 3 9;line 7 3 9;"
                + "piece red 0 0 2;piece wool 0 0 4;piece sheet 0 0 4;piece sock 0 0 1;piece red 0 0 9;piece red 0 0 2;");
        x.hang(3, 0);
        CHECK.due("the only one", x.rain(50, 1), 3);
        x.hang(5, 0);
        CHECK.due("the wider", x.rain(50, 1), 5);
        CHECK.due("the other gets wet", x.rain(100, 0), 1000000);
        x.hang(0, 0);
        CHECK.due("of like ones the least", x.rain(50, 1), 0);
        x.hang(2, 1);
        x.hang(1, 0);
        CHECK.due("of like ones the least, though it hangs later", x.rain(50, 1), 1);
        CHECK.due("all others", x.rain(100, 0), 9000000);
        x.hang(4, 2);
        CHECK.due("the widest", x.rain(50, 1), 4);
        CHECK.due("4 of 50, 4 of 75, 2 of 875 and so on", x.rain(50, 0), 4 * 500000 + 4 * 750000 + 2 * 875000 + 2 * 937500 + 968750);
        x.take(1);
        x.take(4);
        CHECK.due("what is left", x.rain(50, 1), 2);
    }

    private static void staysDryByD() {
        for (int p : new int[] {0, 1, 17, 50, 99, 100}) {
            int staysDry = 1000000;
            int sum = 0;
            for (int n = 1; n <= 10; n++) {
                sum += 1000000 - staysDry;
                CHECK.due(n + " with " + p, socks(n).rain(p, 0), sum);
                staysDry = staysDry * (100 - p) / 100;
            }
        }
        CHECK.due("ten with 37, by hand", socks(10).rain(37, 0),
                370000 + 603100 + 749953 + 842471 + 900757 + 937477 + 960611 + 975185 + 984367);
    }

    private static void yardsAreAdded() {
        CourtWash x = Texts.courtOf(Texts.STILL + Texts.linesOf(8) + "piece red 0 0 9;".repeat(8));
        Texts.hang(x, 0, 1, 2, 3, 4, 5, 6, 7);
        CHECK.due("surely", x.rain(100, 0), 63000000);
        CHECK.due("surely not", x.rain(0, 0), 0);
        CHECK.due("half", x.rain(50, 0), 9 * (500000 + 750000 + 875000 + 937500 + 968750 + 984375 + 992188));
    }

    private static void rainTellsTwoThings() {
        CourtWash x = socks(3);
        CHECK.due("0", x.rain(10, 0), 100000 + 190000);
        CHECK.due("1", x.rain(10, 1), 0);
        CHECK.due("1 with 0", x.rain(0, 1), 0);
        CHECK.due("1 with 100", x.rain(100, 1), 0);
        CHECK.due("NONE", socks(0).rain(0, 1), NONE);
        for (int what : new int[] {-1, 2, LEAST, MOST}) {
            CHECK.due("what " + what, x.rain(10, what), BAD);
        }
    }

    private static void rainIsRefused() {
        CourtWash x = new CourtWash();
        int[][] wrong = {{-1, 0}, {101, 0}, {50, -1}, {50, 2}, {LEAST, 0}, {MOST, 1}};
        CHECK.due("no court", x.rain(50, 0), STATE);
        CHECK.due("no court", x.rain(50, 1), STATE);
        for (int[] w : wrong) {
            CHECK.due("no court, rain " + w[0] + " " + w[1], x.rain(w[0], w[1]), STATE);
        }
        CourtWash y = socks(4);
        for (int[] w : wrong) {
            CHECK.due("rain " + w[0] + " " + w[1], y.rain(w[0], w[1]), BAD);
        }
    }

    private static CourtWash courtToKeep() {
        CourtWash x = Texts.courtOf(Texts.STILL + "line 2 0 9;line 1 0 9;right 0 3 3 5;piece red 0 50 2;piece wool 0 20 2;");
        x.hang(0, 0);
        return x;
    }

    private static void imagesAreKept() {
        CourtWash x = courtToKeep();
        CHECK.due("image 0", x.image(0), 1);
        CHECK.due("image 1 is not kept yet", x.restore(1), STATE);
        x.hang(1, 1);
        x.quarters(2);
        CHECK.due("image 1", x.image(1), 1);
        x.take(0);
        x.quarters(3);
        CHECK.due("image 0 again", x.restore(0), 1);
        CHECK.due("nothing had gone", x.count(6) * 10 + x.count(4), 1);
        CHECK.due("image 1 again", x.restore(1), 1);
        CHECK.due("two had gone", x.count(6) * 10 + x.count(4), 22);
        x.quarters(1);
        CHECK.due("image 0 anew", x.image(0), 1);
        x.quarters(1);
        x.restore(0);
        CHECK.due("three had gone", x.count(6), 3);
        x.restore(1);
        CHECK.due("image 1 is as it was", x.count(6), 2);
    }

    private static void keepingIsRefused() {
        CourtWash x = new CourtWash();
        CHECK.due("no court", x.image(0), STATE);
        CHECK.due("no court", x.image(1), STATE);
        for (int k : new int[] {-1, 2, LEAST, MOST}) {
            CHECK.due("no court, image " + k, x.image(k), BAD);
        }
        CHECK.due("nothing was kept", x.restore(0), STATE);
        x = courtToKeep();
        for (int k : new int[] {-1, 2, LEAST, MOST}) {
            CHECK.due("image " + k, x.image(k), BAD);
        }
        CHECK.due("nothing was kept", x.restore(1), STATE);
    }

    private static void courtsAreRestored() {
        CourtWash x = courtToKeep();
        x.hang(1, 1);
        x.quarters(3);
        x.image(1);
        x.take(0);
        x.quarters(9);
        Texts.read(x, Texts.day("5") + "line 3 3 3;piece sock 4 44 4;");
        x.hang(0, 0);
        Texts.feed(x, "day");
        Texts.rowOf(x, 5, 1, 0);
        x.ask(0, 0);
        CHECK.due("restored", x.restore(1), 1);
        int[] counts = {1, 2, 1, 2, 2, 1, 3, 3};
        for (int what = 0; what < counts.length; what++) {
            CHECK.due("count " + what, x.count(what), counts[what]);
        }
        int[][] pieces = {{50, 0, 0, 0, 2}, {29, 1, 1, 0, 2}};
        for (int p = 0; p < 2; p++) {
            for (int what = 0; what < 5; what++) {
                CHECK.due("piece " + p + ", " + what, x.piece(p, what), pieces[p][what]);
            }
        }
        int[][] lines = {{2, 0, 9, 1, 32, 1}, {1, 0, 9, 2, 0, NONE}};
        for (int l = 0; l < 2; l++) {
            for (int what = 0; what < 6; what++) {
                CHECK.due("line " + l + ", " + what, x.line(l, what), lines[l][what]);
            }
        }
        CHECK.due("kinds", x.kind(0) * 10 + x.kind(1), 13);
        CHECK.due("sun", x.sun(0, 0), 0);
        CHECK.due("the trace stays", x.trace(0), 14);
        x.take(1);
        x.quarters(1);
        CHECK.due("restored again", x.restore(1), 1);
        CHECK.due("as it was kept", x.piece(1, 0) * 10 + x.piece(1, 1), 291);
        x.quarters(21);
        CHECK.due("it goes on", x.quarters(1), 25);
    }

    private static void restoringIsRefused() {
        CourtWash x = new CourtWash();
        CHECK.due("0 without a court", x.restore(0), STATE);
        CHECK.due("1 without a court", x.restore(1), STATE);
        for (int k : new int[] {-1, 2, LEAST, MOST}) {
            CHECK.due("restore " + k + " without a court", x.restore(k), BAD);
        }
        x = courtToKeep();
        CHECK.due("0", x.restore(0), STATE);
        x.image(1);
        CHECK.due("0, though 1 was kept", x.restore(0), STATE);
        CHECK.due("1", x.restore(1), 1);
        for (int k : new int[] {-1, 2, LEAST, MOST}) {
            CHECK.due("restore " + k, x.restore(k), BAD);
        }
    }
}
