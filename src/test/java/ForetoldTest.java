/** Promises 15 to 22: dry, plan, whose, sun, rings, rain, image, restore. */
public final class ForetoldTest {
    private static final int NULL = -1000011, PLACE = -1000012;
    private static final Check CHECK = new Check("ForetoldTest");

    public static void main(String[] args) {
        allDryIsForetold();
        plansAreSoonest();
        plansKeepStainsOff();
        plansAreHangings();
        plansAreRefused();
        whoseIsTold();
        sunIsCounted();
        ringsChange();
        ringsAreRefused();
        rainIsForetold();
        imagesAreKept();
        CHECK.end();
    }

    private static void allDryIsForetold() {
        CourtWash x = new CourtWash();
        CHECK.due("no court", x.dry(), CourtWash.STATE);
        Texts.read(x, Texts.day("91") + "line 9 0 9;line 1 0 9;line 0 0 9;"
                + "piece black 0 96 1;piece black 0 97 1;piece black 0 33 1;piece black 0 1 1;piece black 0 3 1;");
        CHECK.due("nothing hangs", x.dry(), 0);
        x.hang(0, 2);
        CHECK.due("96 quarters", x.dry(), 96);
        x.take(0);
        x.hang(1, 2);
        CHECK.due("97 quarters", x.dry(), CourtWash.NONE);
        CHECK.due("nothing changes", x.piece(1, 0) * 1000 + x.count(6), 97000);
        x.quarters(1);
        CHECK.due("one less", x.dry(), 96);
        x.take(1);
        x.hang(2, 1);
        x.hang(3, 2);
        CHECK.due("33, dripped on twice", x.dry(), 33);
        x.take(2);
        CHECK.due("1 alone", x.dry(), 1);
        x.quarters(1);
        CHECK.due("dry", x.dry(), 0);
        x.hang(2, 1);
        x.quarters(1);
        CHECK.due("wet again", x.piece(3, 0), 3);
        CHECK.due("dry together", x.dry(), 32);
    }

    private static void plan(String what, CourtWash x, int n, int time, int... lines) {
        CHECK.due(what, x.plan(n, -1), time);
        for (int k = 0; k < n; k++) {
            CHECK.due(what + ", piece " + k, x.plan(n, k), time == CourtWash.NONE ? CourtWash.NONE : lines[k]);
        }
    }

    private static void plansAreSoonest() {
        String lines = "line 0 0 9;line 5 0 9;line 9 0 9;line 5 1 2;";
        CourtWash x = Texts.courtOf(Texts.day("51") + lines + "piece wool 0 9 1;piece black 0 12 1;piece sheet 0 3 2;piece sock 0 1 2;");
        plan("a sunny floor", x, 1, 9, 1);
        plan("two", x, 2, 9, 1, 1);
        plan("a sheet", x, 3, 9, 1, 1, 0);
        plan("a sock in the shade", x, 4, 9, 1, 1, 0, 1);
        x.hang(3, 1);
        plan("beside what hangs", x, 3, 9, 1, 1, 0);
        CHECK.due("nothing changes", x.count(4), 1);
        x.quarters(9);
        plan("down they stay wet", x, 3, 9, 1, 1, 0);
        CourtWash dry = Texts.courtOf(Texts.STILL + lines + "piece sheet 0 0 3;piece sheet 0 0 2;piece red 0 1 1;");
        plan("dry ones", dry, 2, 0, 0, 1);
        plan("1 wet dries on floor 9", dry, 3, 1, 0, 1, 2);
        CourtWash late = Texts.courtOf(Texts.day("91") + "line 0 0 9;piece red 0 48 1;piece red 0 49 1;");
        plan("48 quarters", late, 1, 48, 0);
        plan("49 quarters", late, 2, CourtWash.NONE);
        CourtWash hung = Texts.courtOf(Texts.day("9") + "line 5 0 9;line 1 0 9;piece sock 0 9 1;piece red 0 9 1;piece black 0 90 1;");
        hung.hang(2, 0);
        plan("away from what drips", hung, 1, 1, 0);
        Texts.read(hung, Texts.day("2") + "line 5 0 1;line 1 0 9;line 1 1 9;piece sock 0 9 1;piece red 0 9 1;piece black 0 90 1;");
        hung.hang(2, 0);
        plan("the other column", hung, 1, 5, 2);
    }

    private static void plansKeepStainsOff() {
        String court = Texts.day("9") + "line 5 0 1;line 1 0 9;";
        CourtWash x = Texts.courtOf(court + "piece wool 0 90 1;piece red 0 90 1;piece red 0 0 1;");
        plan("red below", x, 2, 10, 0, 1);
        x = Texts.courtOf(court + "piece red 0 90 1;piece wool 0 90 1;piece black 0 0 1;");
        plan("red below, though it comes first", x, 2, 10, 1, 0);
        x = Texts.courtOf(Texts.day("9") + "line 5 0 1;line 1 0 1;piece red 0 90 1;piece black 0 90 1;");
        plan("black may hang below red", x, 2, 10, 0, 1);
        x = Texts.courtOf(Texts.day("9") + "line 5 0 1;line 1 0 1;piece wool 0 20 1;piece red 0 90 1;");
        x.hang(1, 0);
        plan("only below a red one", x, 1, CourtWash.NONE);
        x.take(1);
        x.hang(0, 1);
        x.hang(1, 0);
        x.quarters(1);
        CHECK.due("it is stained", x.piece(0, 2), 1);
        x.take(0);
        CHECK.due("what was stained is not newly stained", x.plan(1, 0), 1);
        x = Texts.courtOf(Texts.day("9") + "line 5 0 1;line 1 0 1;piece red 0 90 1;piece wool 0 90 1;");
        x.hang(1, 1);
        plan("another one may be stained", x, 1, 9, 0);
    }

    private static void plansAreHangings() {
        CourtWash x = Texts.courtOf(Texts.day("9") + "line 0 0 2;line 0 1 2;line 0 2 1;right 0 0 0 1;right 1 1 1 0;"
                + "piece red 0 1 2;piece red 1 1 2;piece red 2 1 1;piece red 0 1 1;");
        plan("rights now", x, 2, 1, 1, 0);
        plan("room", x, 3, 1, 1, 0, 2);
        plan("no room", x, 4, CourtWash.NONE);
        x.quarters(1);
        plan("rights then", x, 2, 1, 1, 0);
        plan("one", x, 1, 1, 0);
        x.quarters(1);
        plan("no rights", x, 2, 1, 0, 1);
        x.hang(3, 2);
        plan("what hangs takes room", x, 3, CourtWash.NONE);
        plan("it hangs", x, 4, CourtWash.NONE);
        x.hang(0, 0);
        plan("one of these hangs", x, 1, CourtWash.NONE);
    }

    private static void plansAreRefused() {
        CourtWash x = new CourtWash();
        CHECK.due("no court ahead of BAD", x.plan(0, 7), CourtWash.STATE);
        Texts.read(x, Texts.day("9") + "line 0 0 9;piece red 0 1 1;piece red 0 1 1;");
        int[][] wrong = {{0, -1}, {-1, -1}, {5, -1}, {3, -1}, {2, 2}, {1, 1}, {2, -2}, {Integer.MAX_VALUE, 0}, {2, Integer.MIN_VALUE}};
        for (int[] w : wrong) {
            CHECK.due("plan " + w[0] + " " + w[1], x.plan(w[0], w[1]), CourtWash.BAD);
        }
        x.hang(0, 0);
        CHECK.due("BAD ahead of NONE", x.plan(2, 2), CourtWash.BAD);
        Texts.read(x, Texts.day("9") + "line 0 0 9;" + "piece red 0 1 1;".repeat(5));
        CHECK.due("five", x.plan(5, -1), CourtWash.BAD);
        CHECK.due("four", x.plan(4, -1), 1);
    }

    private static void whoseIsTold() {
        CourtWash x = new CourtWash();
        CHECK.due("no court ahead of BAD", x.whose(10, 0), CourtWash.STATE);
        Texts.read(x, Texts.STILL + "line 5 3 9;line 6 3 9;line 9 2 9;"
                + "piece red 0 0 3;piece wool 0 0 4;piece sheet 0 0 3;piece sock 0 0 1;piece black 0 0 1;");
        x.hang(0, 0);
        x.hang(1, 0);
        x.hang(2, 1);
        x.hang(3, 2);
        CHECK.due("below all", x.whose(0, 3), 5);
        CHECK.due("below the lower", x.whose(4, 3), 5);
        CHECK.due("on the lower", x.whose(5, 3), 4);
        CHECK.due("on the upper", x.whose(6, 3), 0);
        CHECK.due("another column", x.whose(8, 2), 8);
        CHECK.due("the top", x.whose(9, 2), 0);
        CHECK.due("no line", x.whose(0, 0), 0);
        int[][] wrong = {{-1, 0}, {10, 0}, {0, -1}, {0, 4}};
        for (int[] w : wrong) {
            CHECK.due("whose " + w[0] + " " + w[1], x.whose(w[0], w[1]), CourtWash.BAD);
        }
    }

    private static void sunIsCounted() {
        CourtWash x = new CourtWash();
        CHECK.due("no court", x.sun(0, 0), CourtWash.BAD);
        Texts.read(x, "day 9 10 20 30 40 50 60 70 80 99" + " 90".repeat(14) + ";line 0 0 9;line 5 0 9;line 9 0 9;");
        int[] suns = {1, 6, 24};
        for (int l = 0; l < 3; l++) {
            CHECK.due("sun of " + l, x.sun(l, 0), suns[l]);
        }
        for (int h = 1; h <= 9; h++) {
            CHECK.due("floor 0, roof " + h, x.sun(0, h), 0);
            CHECK.due("floor 5, roof " + h, x.sun(1, h), Math.max(0, 6 - h));
            CHECK.due("floor 9, roof " + h, x.sun(2, h), 10 - h);
        }
        x.quarters(5);
        CHECK.due("of the day, not of now", x.sun(1, 0), 6);
        int[][] wrong = {{3, 0}, {-1, 0}, {0, -1}, {0, 10}};
        for (int[] w : wrong) {
            CHECK.due("sun " + w[0] + " " + w[1], x.sun(w[0], w[1]), CourtWash.BAD);
        }
    }

    private static void rings(String what, CourtWash x, int n, int... lines) {
        for (int k = 0; k < n; k++) {
            CHECK.due(what + ", person " + k, x.rings(0, n, k), lines[k]);
        }
    }

    private static void ringsChange() {
        CourtWash x = Texts.courtOf("day" + " 80".repeat(4) + " 50".repeat(4) + " 20".repeat(4) + " 90".repeat(12)
                + ";line 1 0 9;line 4 0 9;line 7 0 9;line 8 0 9;line 2 1 9;line 0 2 1;");
        Texts.rowOf(x, 0, 0, 3);
        rings("the sunny one is wanted by both", x, 2, 0, 3);
        Texts.rowOf(x, 0, 2, 3);
        rings("of like ones the lesser", x, 2, 3, 2);
        Texts.rowOf(x, 0, 1, 2, 3);
        rings("a ring of two, one left", x, 3, 3, 2, 1);
        Texts.rowOf(x, 0, 4, 1, 2);
        rings("who stays alone", x, 3, 4, 2, 1);
        Texts.rowOf(x, 0, 1, 0, 2);
        rings("a ring of three", x, 3, 0, 2, 1);
        Texts.rowOf(x, 0, 5, 4, 3, 2, 1, 0);
        rings("six", x, 6, 5, 4, 3, 2, 1, 0);
        x.quarters(5);
        rings("not by now", x, 6, 5, 4, 3, 2, 1, 0);
    }

    private static void ringsAreRefused() {
        CourtWash x = new CourtWash();
        CHECK.due("no court ahead of BAD", x.rings(9, 9, 9), CourtWash.STATE);
        Texts.read(x, Texts.STILL + "line 1 0 9;line 4 0 9;line 7 0 9;");
        int[][] wrong = {{8, 2, 0}, {-1, 2, 0}, {0, 1, 0}, {0, 7, 0}, {0, 2, 2}, {0, 2, -1}};
        for (int[] w : wrong) {
            CHECK.due("rings " + w[0] + " " + w[1] + " " + w[2], x.rings(w[0], w[1], w[2]), CourtWash.BAD);
        }
        CHECK.due("no row", x.rings(0, 2, 0), NULL);
        CHECK.due("status of null", x.status(), 1);
        Texts.rowOf(x, 0, 0, 1, 3, 1);
        CHECK.due("too short", x.rings(0, 5, 0), PLACE);
        CHECK.due("status of place", x.status(), 2);
        CHECK.due("no such line", x.rings(0, 3, 0), CourtWash.BAD);
        CHECK.due("BAD leaves status", x.status(), 2);
        CHECK.due("unlike ones", x.rings(0, 2, 0), 0);
        CHECK.due("status of none", x.status(), 0);
        x.set(0, 2, -1);
        CHECK.due("no line", x.rings(0, 3, 0), CourtWash.BAD);
        x.set(0, 2, 2);
        CHECK.due("told twice", x.rings(0, 4, 0), CourtWash.BAD);
        CHECK.due("three", x.rings(0, 3, 0), 0);
    }

    private static void rainIsForetold() {
        CourtWash x = new CourtWash();
        CHECK.due("no court ahead of BAD", x.rain(-1, 0), CourtWash.STATE);
        Texts.read(x, Texts.STILL + "line 5 3 9;line 6 3 9;piece red 0 0 2;piece wool 0 0 4;piece sheet 0 0 4;piece sock 0 0 1;piece red 0 0 9;");
        CHECK.due("nothing gets wet", x.rain(50, 0), 0);
        CHECK.due("nothing is taken", x.rain(50, 1), CourtWash.NONE);
        x.hang(3, 0);
        CHECK.due("one is taken in time", x.rain(100, 0), 0);
        CHECK.due("that one", x.rain(100, 1), 3);
        x.hang(0, 0);
        x.hang(1, 0);
        CHECK.due("the widest", x.rain(33, 1), 1);
        CHECK.due("three", x.rain(33, 0), 2 * 330000 + 551100);
        x.hang(2, 1);
        CHECK.due("of like ones the least", x.rain(33, 1), 1);
        CHECK.due("D is cut", x.rain(33, 0), 4 * 330000 + 2 * 551100 + (1000000 - 300763));
        CHECK.due("surely", x.rain(100, 0), 7000000);
        CHECK.due("surely not", x.rain(0, 0), 0);
        int[][] wrong = {{-1, 0}, {101, 0}, {50, -1}, {50, 2}};
        for (int[] w : wrong) {
            CHECK.due("rain " + w[0] + " " + w[1], x.rain(w[0], w[1]), CourtWash.BAD);
        }
        CourtWash y = Texts.courtOf(Texts.STILL + "line 5 3 9;" + "piece sock 0 0 1;".repeat(7));
        int dry = 1000000;
        int sum = 0;
        for (int p = 0; p < 7; p++) {
            y.hang(p, 0);
            sum += 1000000 - dry;
            CHECK.due("socks " + p, y.rain(17, 0), sum);
            dry = dry * 83 / 100;
        }
    }

    private static void imagesAreKept() {
        CourtWash x = new CourtWash();
        CHECK.due("no court", x.image(0), CourtWash.STATE);
        CHECK.due("BAD ahead of STATE", x.image(2), CourtWash.BAD);
        CHECK.due("-1", x.image(-1), CourtWash.BAD);
        CHECK.due("none kept", x.restore(1), CourtWash.STATE);
        CHECK.due("restore 2", x.restore(2), CourtWash.BAD);
        CHECK.due("restore -1", x.restore(-1), CourtWash.BAD);
        Texts.read(x, Texts.STILL + "line 2 0 9;line 1 0 9;piece red 0 50 2;piece wool 0 20 2;");
        x.hang(0, 0);
        CHECK.due("kept", x.image(0), 1);
        CHECK.due("the other is not", x.restore(1), CourtWash.STATE);
        x.hang(1, 1);
        x.quarters(2);
        CHECK.due("kept", x.image(1), 1);
        Texts.read(x, Texts.STILL + "line 2 0 9;piece sock 0 50 2;");
        Texts.feed(x, "day");
        x.row(5, 0, 3);
        CHECK.due("restored", x.restore(0), 1);
        CHECK.due("lines", x.count(1), 2);
        CHECK.due("pieces", x.count(3), 2);
        CHECK.due("hung", x.count(4), 1);
        CHECK.due("gone", x.count(6), 0);
        CHECK.due("the tape stays", x.count(7), 3);
        CHECK.due("rows stay", x.count(0), 1);
        x.quarters(7);
        x.take(0);
        CHECK.due("restored again", x.restore(0), 1);
        CHECK.due("as it was kept", x.line(0, 3) * 1000 + x.count(6), 1000);
        CHECK.due("the other", x.restore(1), 1);
        CHECK.due("wet", x.piece(1, 0), 26);
        CHECK.due("stained", x.piece(1, 2), 1);
        CHECK.due("gone", x.count(6), 2);
        CHECK.due("kept anew", x.image(0), 1);
        x.take(0);
        CHECK.due("restored", x.restore(0), 1);
        CHECK.due("as kept anew", x.count(4), 2);
        CHECK.due("refusals keep it", x.restore(3), CourtWash.BAD);
        CHECK.due("as kept anew", x.count(4), 2);
    }
}
