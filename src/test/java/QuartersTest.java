/** Promise 11: quarters, that is drying, dripping and stains. */
public final class QuartersTest {
    private static final Check CHECK = new Check("QuartersTest");

    public static void main(String[] args) {
        quartersAreCounted();
        piecesDry();
        whatIsDownDoesNot();
        piecesDrip();
        dripsAreAddedAtOnce();
        redStains();
        CHECK.end();
    }

    private static void quartersAreCounted() {
        CourtWash x = new CourtWash();
        CHECK.due("no court", x.quarters(1), CourtWash.STATE);
        CHECK.due("no court ahead of BAD", x.quarters(0), CourtWash.STATE);
        Texts.read(x, Texts.STILL + "line 0 0 9;");
        CHECK.due("none", x.quarters(0), CourtWash.BAD);
        CHECK.due("97", x.quarters(97), CourtWash.BAD);
        CHECK.due("-1", x.quarters(-1), CourtWash.BAD);
        CHECK.due("one", x.quarters(1), 1);
        CHECK.due("96", x.quarters(96), 97);
        CHECK.due("gone", x.count(6), 97);
    }

    private static void wets(String what, CourtWash x, int... wets) {
        for (int p = 0; p < wets.length; p++) {
            CHECK.due(what + ", piece " + p, x.piece(p, 0), wets[p]);
        }
    }

    private static void stains(String what, CourtWash x, int... stains) {
        int sum = 0;
        for (int p = 0; p < stains.length; p++) {
            CHECK.due(what + ", stain of " + p, x.piece(p, 2), stains[p]);
            sum += stains[p];
        }
        CHECK.due(what + ", stained ones", x.count(5), sum);
    }

    private static void piecesDry() {
        StringBuilder day = new StringBuilder("day 30 31 43 21");
        day.append(" 90".repeat(20)).append(";");
        CourtWash x = Texts.courtOf(day + "line 3 0 9;line 3 1 9;line 3 2 9;"
                + "piece red 0 30 1;piece wool 0 30 1;piece sock 0 30 1;piece sheet 0 30 1;piece black 0 30 1;piece wool 0 1 1;");
        x.hang(0, 0);
        x.hang(1, 0);
        x.hang(2, 0);
        x.hang(3, 1);
        x.hang(4, 2);
        x.hang(5, 2);
        x.quarters(1);
        wets("sun", x, 28, 30, 30, 28, 28, 1);
        x.quarters(1);
        wets("sun and wind", x, 25, 29, 29, 25, 25, 0);
        x.quarters(1);
        wets("wind", x, 22, 28, 28, 22, 22, 0);
        x.quarters(1);
        wets("a lower sun", x, 19, 27, 27, 19, 19, 0);
        x.quarters(20);
        wets("a day", x, 19, 27, 27, 19, 19, 0);
        x.quarters(2);
        wets("the next day", x, 14, 26, 26, 14, 14, 0);
    }

    private static void whatIsDownDoesNot() {
        CourtWash x = Texts.courtOf(Texts.day("9") + "line 0 0 9;piece red 0 30 1;piece red 0 30 1;");
        x.hang(1, 0);
        x.quarters(2);
        wets("down", x, 30, 8);
        x.take(1);
        x.quarters(2);
        wets("both down", x, 30, 8);
    }

    private static void piecesDrip() {
        CourtWash x = Texts.courtOf(Texts.day("91") + "line 8 0 9;line 2 0 9;line 5 0 9;line 1 1 9;line 6 0 9;"
                + "piece black 0 32 1;piece black 0 31 1;piece black 0 5 1;piece black 0 98 1;piece black 0 5 1;piece black 0 5 1;");
        x.hang(0, 0);
        x.hang(1, 0);
        x.hang(2, 2);
        x.hang(3, 2);
        x.hang(4, 3);
        x.hang(5, 4);
        x.quarters(1);
        wets("only the next below", x, 31, 30, 4, 97, 4, 7);
        x.quarters(1);
        wets("30 does not drip", x, 30, 29, 3, 96, 3, 6);
        x.take(5);
        x.quarters(1);
        wets("an empty line is the next below", x, 29, 28, 2, 95, 2, 6);
    }

    private static void dripsAreAddedAtOnce() {
        CourtWash x = Texts.courtOf(Texts.STILL + "line 3 0 9;line 2 0 9;line 1 0 9;"
                + "piece black 0 31 1;piece black 0 50 1;piece black 0 29 1;piece black 0 30 1;piece black 0 0 1;piece black 0 95 1;");
        x.hang(0, 0);
        x.hang(1, 0);
        x.hang(2, 1);
        x.hang(3, 1);
        x.hang(4, 2);
        x.hang(5, 2);
        x.quarters(1);
        wets("two drip, nothing drips on", x, 31, 50, 35, 36, 0, 95);
        x.quarters(1);
        wets("four drip, 99 at most", x, 31, 50, 41, 42, 6, 99);
    }

    private static void redStains() {
        CourtWash x = Texts.courtOf(Texts.STILL + "line 2 0 9;line 1 0 9;line 0 0 9;line 2 1 9;line 1 1 9;"
                + "piece red 0 31 1;piece red 0 0 1;piece black 0 0 1;piece wool 0 0 1;piece sock 0 0 1;"
                + "piece sheet 0 0 1;piece black 0 31 1;piece wool 0 0 1;piece red 0 30 1;");
        x.hang(0, 0);
        for (int p = 1; p <= 4; p++) {
            x.hang(p, 1);
        }
        x.hang(5, 2);
        x.hang(6, 3);
        x.hang(7, 4);
        x.hang(8, 3);
        x.quarters(1);
        stains("red", x, 0, 0, 0, 1, 1, 0, 0, 0, 0);
        wets("red", x, 31, 3, 3, 3, 3, 0, 31, 3, 30);
        x.take(0);
        x.quarters(1);
        stains("they stay", x, 0, 0, 0, 1, 1, 0, 0, 0, 0);
        x.take(3);
        x.take(1);
        x.take(2);
        x.take(4);
        x.hang(0, 1);
        x.quarters(1);
        stains("a sheet", x, 0, 0, 0, 1, 1, 1, 0, 0, 0);
    }
}
