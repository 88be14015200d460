/** Promises 1, 6, 7, 8: a new object, feed, court, fault. */
public final class TextsTest {
    private static final Check CHECK = new Check("TextsTest");
    private static final String DAY = Texts.day("1");
    private static final String LINE = "line 0 0 9;";

    public static void main(String[] args) {
        theTapeIsFed();
        textsAreRead();
        wordsAreInTheirOrder();
        tokensAreNone();
        numbersAreAsTold();
        sortsHaveRoom();
        faultsChangeNothing();
        CHECK.end();
    }

    private static void theTapeIsFed() {
        CourtWash x = new CourtWash();
        CHECK.due("an empty tape", x.count(7), 0);
        CHECK.due("none", x.feed(0, 0), CourtWash.BAD);
        CHECK.due("nine", x.feed(0, 9), CourtWash.BAD);
        CHECK.due("less than none", x.feed(0, Integer.MIN_VALUE), CourtWash.BAD);
        CHECK.due("one", x.feed(0x7766554433221100L | 'd', 1), 1);
        CHECK.due("two", x.feed('a' << 8 | 'y', 2), 3);
        for (int i = 1; i <= 61; i++) {
            CHECK.due("eight", x.feed(0x2020202020202020L, 8), 3 + 8 * i);
        }
        CHECK.due("seven", x.feed(0x20202020202020L, 7), 498);
        CHECK.due("three are too many", x.feed(0x202020, 3), CourtWash.FULL);
        CHECK.due("none came", x.count(7), 498);
        CHECK.due("one", x.feed(0x20, 1), 499);
        CHECK.due("two are too many", x.feed(0x2020, 2), CourtWash.FULL);
        CHECK.due("BAD ahead of FULL", x.feed(0x2020, 9), CourtWash.BAD);
        CHECK.due("the last", x.feed(0x20, 1), 500);
        CHECK.due("one more", x.feed(0x20, 1), CourtWash.FULL);
        CHECK.due("day alone", x.court(), -1000100 - 500);
        CHECK.due("the tape is empty", x.count(7), 0);
        CHECK.due("fed again", x.feed(0x20, 1), 1);
    }

    private static void textsAreRead() {
        CourtWash x = new CourtWash();
        CHECK.due("no court", x.count(1) + x.count(2) + x.count(3) + x.count(6), 0);
        CHECK.due("no fault", x.fault(), 0);
        String tight = "day" + " 1".repeat(23) + " 99;line0 0 9;line 9 3 1;right 1 0 23 5;right 0 7 7 0;piece red0 0 9;piece sock 5 99 1;";
        CHECK.due("tight", Texts.read(x, tight), 2);
        checkCounts(x);
        String loose = " \n\n day\n" + "001 ".repeat(23) + "99\n;\nline 0\n0 09 ; line 009 3 1\n;right 1 0 23 5 ;right\n0 7 7 0;"
                + "piece\nred 0 0 9;piece sock 5 99 1 ; \n ";
        CHECK.due("loose", Texts.read(x, loose), 2);
        checkCounts(x);
        CHECK.due("still no fault", x.fault(), 0);
        CHECK.due("least", Texts.read(x, DAY + LINE), 1);
        CHECK.due("no rights", x.count(2), 0);
        CHECK.due("no pieces", x.count(3), 0);
    }

    private static void checkCounts(CourtWash x) {
        CHECK.due("lines", x.count(1), 2);
        CHECK.due("rights", x.count(2), 2);
        CHECK.due("pieces", x.count(3), 2);
        CHECK.due("floor", x.line(1, 0), 9);
        CHECK.due("column", x.line(1, 1), 3);
        CHECK.due("wide", x.line(1, 2), 1);
        CHECK.due("right", x.line(1, 4), 32);
        CHECK.due("who", x.piece(1, 3), 5);
        CHECK.due("wet", x.piece(1, 0), 99);
        CHECK.due("yards", x.piece(0, 4), 9);
        CHECK.due("kind", x.kind(1), 5);
    }

    /** A text, the place of its first FAULT and that FAULT's number. */
    private static void faulty(String text, int place, int number) {
        CourtWash x = new CourtWash();
        CHECK.due(text, Texts.read(x, text), -1000100 - place);
        CHECK.due("fault of " + text, x.fault(), number);
        CHECK.due("tape after " + text, x.count(7), 0);
        CHECK.due("no court after " + text, x.dry(), CourtWash.STATE);
    }

    private static void faultyAfter(String good, String rest, int place, int number) {
        faulty(good + rest, good.length() + place, number);
    }

    private static void wordsAreInTheirOrder() {
        faulty("", 0, 1);
        faulty(" \n ", 3, 1);
        faulty("line 0 0 9;", 0, 1);
        faulty("days", 0, 1);
        faulty("da", 0, 1);
        faulty("; day", 0, 1);
        faulty("day;", 3, 1);
        faulty("day" + " 1".repeat(23) + ";", 49, 1);
        faulty("day" + " 1".repeat(25) + ";", 52, 1);
        faulty(DAY, DAY.length(), 1);
        faulty(DAY + "  ", DAY.length() + 2, 1);
        faultyAfter(DAY, "right 0 0 0 0;", 0, 1);
        faultyAfter(DAY, "piece red 0 0 1;", 0, 1);
        faultyAfter(DAY, "line 0 0;", 8, 1);
        faultyAfter(DAY, "line 0 0 9", 10, 1);
        faultyAfter(DAY, "line 0 0 9 9;", 11, 1);
        faultyAfter(DAY, "line 0 red 9;", 7, 1);
        faultyAfter(DAY + LINE, "lines 1 0 9;", 0, 1);
        faultyAfter(DAY + LINE, "day", 0, 1);
        faultyAfter(DAY + LINE, ";", 0, 1);
        faultyAfter(DAY + LINE, "7", 0, 1);
        faultyAfter(DAY + LINE, "right 0 0 0 0;line 1 0 9;", 14, 1);
        faultyAfter(DAY + LINE, "piece red 0 0 1;line 1 0 9;", 16, 1);
        faultyAfter(DAY + LINE, "piece red 0 0 1;right 0 0 0 0;", 16, 1);
        faultyAfter(DAY + LINE, "piece reds 0 0 1;", 6, 1);
        faultyAfter(DAY + LINE, "piece 1 0 0 1;", 6, 1);
        faultyAfter(DAY + LINE, "piece piece 0 0 1;", 6, 1);
        faultyAfter(DAY + LINE, "piece red 0 0 1", 15, 1);
    }

    private static void tokensAreNone() {
        faulty("Day", 0, 1);
        faulty("\tday", 0, 1);
        faulty("day\r", 3, 1);
        faulty("day\u00ff", 3, 1);
        faulty("day\u0000", 3, 1);
        faulty("day 1 -1", 6, 1);
        faulty("day 1 1.1", 7, 1);
        faulty("day 0001", 4, 1);
        faulty("day 1000", 4, 1);
        faulty("day 99999999999999999999", 4, 1);
        faulty("day 1 1000 100", 6, 1);
        faulty("day 12a", 6, 1);
        faulty("day 1`", 5, 1);
        faulty("day 1{", 5, 1);
        faulty("day 1/", 5, 1);
        faulty("day 1:", 5, 1);
        faultyAfter(DAY + LINE, " \n#", 2, 1);
        faultyAfter(DAY + LINE, "1000", 0, 1);
    }

    private static void numbersAreAsTold() {
        faulty("day 100", 4, 2);
        faulty("day 99 100 1000", 7, 2);
        faultyAfter(DAY, "line 10 4 0;", 5, 2);
        faultyAfter(DAY, "line 9 4 0;", 7, 2);
        faultyAfter(DAY, "line 9 3 0;", 9, 2);
        faultyAfter(DAY, "line 9 3 10;", 9, 2);
        faultyAfter(DAY + LINE, "line 0 0 0;", 7, 2);
        faultyAfter(DAY + LINE + "line 1 0 1;", "line 1 0 ", 7, 2);
        faultyAfter(DAY + LINE, "line 00 000;", 8, 2);
        faultyAfter(DAY + LINE + "line 1 0 1;", "right 2 24 24 6;", 6, 2);
        faultyAfter(DAY + LINE + "line 1 0 1;", "right 1 24 24 6;", 8, 2);
        faultyAfter(DAY + LINE + "line 1 0 1;", "right 1 23 24 6;", 11, 2);
        faultyAfter(DAY + LINE + "line 1 0 1;", "right 1 23 22 6;", 11, 2);
        faultyAfter(DAY + LINE + "line 1 0 1;", "right 1 23 23 6;", 14, 2);
        faultyAfter(DAY + LINE, "piece wool 6 100 10;", 11, 2);
        faultyAfter(DAY + LINE, "piece wool 5 100 10;", 13, 2);
        faultyAfter(DAY + LINE, "piece wool 5 99 10;", 16, 2);
        faultyAfter(DAY + LINE, "piece wool 5 99 0;", 16, 2);
    }

    private static String linesOf(int n) {
        StringBuilder text = new StringBuilder();
        for (int i = 0; i < n; i++) {
            text.append("line ").append(i).append(" 1 9;");
        }
        return text.toString();
    }

    private static void sortsHaveRoom() {
        String lines = Texts.day("1") + linesOf(8);
        CHECK.due("eight lines", Texts.read(new CourtWash(), lines), 8);
        faultyAfter(lines, "line 0 1 9;", 0, 3);
        faultyAfter(lines, " line", 1, 3);
        String rights = DAY + LINE + "right 0 0 0 0;".repeat(8);
        CourtWash x = new CourtWash();
        CHECK.due("eight rights", Texts.read(x, rights), 1);
        CHECK.due("counted", x.count(2), 8);
        faultyAfter(rights, "right 9", 0, 3);
        faultyAfter(rights, "line 1 1 1;", 0, 1);
        String pieces = DAY + LINE + "piece sock 0 0 1;".repeat(10);
        CHECK.due("ten pieces", Texts.read(x, pieces), 1);
        CHECK.due("counted", x.count(3), 10);
        faultyAfter(pieces, "piece sock 0 0 1;", 0, 3);
        faultyAfter(pieces, "right 0 0 0 0;", 0, 1);
    }

    private static void faultsChangeNothing() {
        CourtWash x = Texts.courtOf(Texts.day("1") + "line 3 2 9;piece wool 1 50 2;piece red 1 50 2;");
        x.hang(0, 0);
        x.hang(1, 0);
        x.quarters(3);
        x.row(0, 0, 2);
        x.image(0);
        x.ask(0, 0);
        CHECK.due("a fault", Texts.read(x, "day 100"), -1000104);
        CHECK.due("it hangs", x.count(4), 2);
        CHECK.due("quarters", x.count(6), 3);
        CHECK.due("wet", x.piece(1, 0), 41);
        CHECK.due("trace", x.trace(0), 13);
        CHECK.due("fault", x.fault(), 2);
        CHECK.due("another court", Texts.read(x, DAY + LINE + "piece red 1 50 2;"), 1);
        CHECK.due("fault stays", x.fault(), 2);
        CHECK.due("nothing hangs", x.count(4), 0);
        CHECK.due("quarter 0", x.count(6), 0);
        CHECK.due("rows stay", x.count(0), 1);
        CHECK.due("trace stays", x.trace(0), 13);
        CHECK.due("the image stays", x.restore(0), 1);
        CHECK.due("as it was", x.piece(1, 0), 41);
        CHECK.due("fault of the end", x.court(), -1000100);
        CHECK.due("the latest fault", x.fault(), 1);
    }
}
