import java.nio.charset.StandardCharsets;
import java.util.ArrayList;
import java.util.List;
import java.util.regex.Matcher;
import java.util.regex.Pattern;

/** TEXTS in Terms 1, and promises 1, 6, 7: a new object, feed, court. */
public final class TextsTest {
    private static final Check CHECK = new Check("TextsTest");
    private static final String DAY = Texts.day("1");
    private static final String LINE = "line 0 0 9;";

    public static void main(String[] args) {
        CHECK.words("CourtWash()`: No COURT.", TextsTest::aNewObjectHasNoCourt);
        CHECK.words("THE TAPE has at most 500 bytes", TextsTest::theTapeHas500Bytes);
        CHECK.words("NAMES (letters a to z)", TextsTest::namesAreOfLetters);
        CHECK.words("NUMBERS (figures, 3 at most)", TextsTest::numbersAreOfFigures);
        CHECK.words("SIGNS ;", TextsTest::thereIsOneSign);
        CHECK.words("bytes 32 and 10 ahead of, between, behind these, as many as wanted", TextsTest::blanksStandAnywhere);
        CHECK.words("(none is needed where one ends without)", TextsTest::blanksAreNotNeeded);
        CHECK.words("court: day line { line } { right } { piece }.", TextsTest::partsAreInTheirOrder);
        CHECK.words("day: 'day' and 24 NUMBERS", TextsTest::daysHave24Numbers);
        CHECK.words("(0 to 99:", TextsTest::numbersOfDaysAreWithin);
        CHECK.words("tens the least floor that has sun, 0 to 9;", TextsTest::tensAreTheLeastFloor);
        CHECK.words("ones the wind, 0 to 9;", TextsTest::onesAreTheWind);
        CHECK.words("by QUARTERS 0 to 23) ';'.", TextsTest::numbersAreByQuarters);
        CHECK.words("line: 'line' FLOOR COLUMN WIDE ';' (0 to 9; 0 to 3; 1 to 9;", TextsTest::numbersOfLinesAreWithin);
        CHECK.words("not two at one FLOOR and COLUMN;", TextsTest::linesAreAtUnlikePlaces);
        CHECK.words("LINES 0 .. 7, 8 at most).", TextsTest::thereAreEightLines);
        CHECK.words("right: 'right' LINE FROM TO WHO ';' (one told;", TextsTest::rightsAreToLinesTold);
        CHECK.words("QUARTERS 0 to 23, TO no less;", TextsTest::rightsAreInQuarters);
        CHECK.words("PEOPLE 0 to 5; 8 at most).", TextsTest::rightsArePeoples);
        CHECK.words("piece: 'piece' SORT WHO WET YARDS ';' (SORT: 'red' | 'wool' | 'sheet' | 'black' | 'sock';", TextsTest::piecesAreOfSorts);
        CHECK.words("0 to 5; 0 to 99; 1 to 9;", TextsTest::numbersOfPiecesAreWithin);
        CHECK.words("PIECES 0 .. 9, 10 at most).", TextsTest::thereAreTenPieces);
        CHECK.words("A COURT that is read stands in place of the one before (none at first): QUARTER 0, nothing hangs, nothing is STAINED;",
                TextsTest::courtsTakeThePlaceOfOthers);
        CHECK.words("IMAGES and ROWS stay.", TextsTest::imagesAndRowsStay);
        CHECK.words("The lowest n bytes of w (1 to 8), the highest of them first, come behind the tape: how many it has.", TextsTest::bytesAreFed);
        CHECK.words("BAD: n; FULL: none comes.", TextsTest::feedingIsRefused);
        CHECK.words("The tape, empty then, is read: how many LINES there are.", TextsTest::theTapeIsReadAndEmpty);
        CHECK.end();
    }

    private static void reads(String text, int lines) {
        CHECK.due(text, Texts.read(new CourtWash(), text), lines);
    }

    /** A text, the place of its first FAULT and that FAULT's number. */
    private static void faulty(String text, int place, int number) {
        CourtWash x = new CourtWash();
        CHECK.due(text, Texts.read(x, text), -1000100 - place);
        CHECK.due("fault of " + text, x.fault(), number);
    }

    private static void faultyAfter(String good, String rest, int place, int number) {
        faulty(good + rest, good.length() + place, number);
    }

    /** A text with @ in place of a NUMBER: the least and the most that it can be, and no other. */
    private static void within(String text, int least, int most) {
        int place = text.indexOf('@');
        reads(text.replace("@", Integer.toString(least)), 1 + lines(text));
        reads(text.replace("@", Integer.toString(most)), 1 + lines(text));
        if (least > 0) {
            faulty(text.replace("@", Integer.toString(least - 1)), place, 2);
        }
        faulty(text.replace("@", Integer.toString(most + 1)), place, 2);
        faulty(text.replace("@", "999"), place, 2);
    }

    /** How many lines there are but the first. */
    private static int lines(String text) {
        return text.split("line ", -1).length - 2;
    }

    private static void aNewObjectHasNoCourt() {
        CourtWash x = new CourtWash();
        for (int what = 0; what < 8; what++) {
            CHECK.due("count " + what, x.count(what), 0);
        }
        CHECK.due("dry", x.dry(), CourtWash.STATE);
        CHECK.due("image", x.image(0), CourtWash.STATE);
        CHECK.due("line 0", x.line(0, 0), CourtWash.BAD);
        CHECK.due("piece 0", x.piece(0, 0), CourtWash.BAD);
    }

    private static void theTapeHas500Bytes() {
        CourtWash x = new CourtWash();
        String court = DAY + LINE;
        Texts.feed(x, " ".repeat(500 - court.length()) + court);
        CHECK.due("bytes", x.count(7), 500);
        CHECK.due("one more", x.feed(' ', 1), CourtWash.FULL);
        CHECK.due("all are read", x.court(), 1);
        Texts.feed(x, " ".repeat(499 - court.length()) + court);
        CHECK.due("the last", x.feed('7', 1), 500);
        CHECK.due("the last is read", x.court(), -1000100 - 499);
        Texts.feed(x, " ".repeat(500));
        CHECK.due("blanks alone", x.court(), -1000100 - 500);
    }

    /** Behind a NAME: a byte that is a letter makes it another NAME, one that is none ends it. */
    private static void namesAreOfLetters() {
        for (int sign = 0; sign < 256; sign++) {
            boolean isLetter = sign >= 97 && sign <= 122;
            boolean isBlank = sign == 32 || sign == 10;
            boolean isFigure = sign >= 48 && sign <= 57;
            faulty("day" + (char) sign, isLetter ? 0 : isBlank || isFigure ? 4 : 3, 1);
        }
        for (String name : new String[] {"Day", "DAY", "da", "days", "dayline", "d", "dax", "cay"}) {
            faulty(name + " 1", 0, 1);
        }
        faulty("d ay", 0, 1);
    }

    /** Behind a NUMBER that is not as told: a byte that is a figure makes it none. */
    private static void numbersAreOfFigures() {
        for (int sign = 0; sign < 256; sign++) {
            boolean isFigure = sign >= 48 && sign <= 57;
            faulty("day 100" + (char) sign, 4, isFigure ? 1 : 2);
        }
        reads(DAY + "line 000 003 009;", 1);
        reads(DAY + "line 00 03 09;", 1);
        faultyAfter(DAY, "line 0000 0 9;", 5, 1);
        faultyAfter(DAY, "line 0 0003 9;", 7, 1);
        faultyAfter(DAY, "line 0 0 00000000000000000000009;", 9, 1);
        faulty("day 4294967297", 4, 1);
        faulty("day 1 -1", 6, 1);
        faulty("day 1 +1", 6, 1);
        faulty("day 1 1.1", 7, 1);
    }

    private static void thereIsOneSign() {
        for (int sign = 0; sign < 256; sign++) {
            String text = DAY + "line 0 0 9" + (char) sign;
            if (sign == 59) {
                reads(text, 1);
            } else if (sign == 32 || sign == 10) {
                faulty(text, text.length(), 1);
            } else if (sign >= 48 && sign <= 57) {
                faulty(text, text.length() - 2, 2);
            } else {
                faulty(text, text.length() - 1, 1);
            }
        }
    }

    private static void blanksStandAnywhere() {
        StringBuilder loose = new StringBuilder(" \n\n ");
        for (String token : tokens(DAY + LINE + "right 0 0 23 5;piece red 0 0 9;")) {
            loose.append(token).append(" \n\n ");
        }
        reads(loose.toString(), 1);
        reads(" ".repeat(9) + DAY + "\n".repeat(9) + LINE + " \n".repeat(9), 1);
        for (int sign = 0; sign < 256; sign++) {
            boolean isBlank = sign == 32 || sign == 10;
            if (isBlank) {
                reads((char) sign + DAY + (char) sign + LINE + (char) sign, 1);
            } else {
                faulty((char) sign + DAY + LINE, 0, 1);
                faulty(DAY + LINE + (char) sign, DAY.length() + LINE.length(), 1);
            }
        }
    }

    private static List<String> tokens(String text) {
        List<String> tokens = new ArrayList<>();
        Matcher m = Pattern.compile("[a-z]+|[0-9]+|;").matcher(text);
        while (m.find()) {
            tokens.add(m.group());
        }
        return tokens;
    }

    private static void blanksAreNotNeeded() {
        CourtWash x = new CourtWash();
        CHECK.due("tight", Texts.read(x, "day1" + " 1".repeat(23) + ";line2 3 4;right0 0 23 5;piece red1 50 2;piece sock0 7 9;"), 1);
        CHECK.due("floor", x.line(0, 0), 2);
        CHECK.due("right", x.line(0, 4), 32);
        CHECK.due("who", x.piece(0, 3), 1);
        faulty("day 12a", 6, 1);
        faultyAfter(DAY, "line 0 0 9;line1 0 9right", 20, 1);
        faultyAfter(DAY + LINE, "piecered 0 0 1;", 0, 1);
    }

    private static void partsAreInTheirOrder() {
        String right = "right 0 0 0 0;";
        String piece = "piece red 0 0 1;";
        String line = "line 1 0 9;";
        reads(DAY + LINE, 1);
        reads(DAY + LINE + line, 2);
        reads(DAY + LINE + right, 1);
        reads(DAY + LINE + piece, 1);
        reads(DAY + LINE + line + right + right + piece + piece, 2);
        faulty("", 0, 1);
        faulty(LINE, 0, 1);
        faulty(right, 0, 1);
        faulty(piece, 0, 1);
        faulty(";", 0, 1);
        faulty("7", 0, 1);
        faulty(DAY, DAY.length(), 1);
        for (String other : new String[] {right, piece, DAY, ";", "7", "red"}) {
            faultyAfter(DAY, other, 0, 1);
        }
        for (String other : new String[] {DAY, ";", "7", "red", "lines 1 0 9;", "rights", "pieces", "lin", "righ", "piec"}) {
            faultyAfter(DAY + LINE, other, 0, 1);
        }
        for (String other : new String[] {DAY, line, ";", "7"}) {
            faultyAfter(DAY + LINE + right, other, 0, 1);
        }
        for (String other : new String[] {DAY, line, right, ";", "7"}) {
            faultyAfter(DAY + LINE + piece, other, 0, 1);
        }
    }

    private static void daysHave24Numbers() {
        reads("day" + " 1".repeat(24) + ";" + LINE, 1);
        for (int n = 0; n < 24; n++) {
            faultyAfter("day" + " 1".repeat(n), ";" + LINE, 0, 1);
        }
        faultyAfter("day" + " 1".repeat(24), " 1;" + LINE, 1, 1);
        faultyAfter("day" + " 1".repeat(24), LINE, 0, 1);
    }

    private static void numbersOfDaysAreWithin() {
        for (int q = 0; q < 24; q++) {
            within(Texts.dayBut(q, "@", "1") + LINE, 0, 99);
        }
    }

    private static void tensAreTheLeastFloor() {
        String lines = "line 0 0 9;line 1 0 9;line 4 0 9;line 5 0 9;line 8 0 9;line 9 0 9;";
        int[] floors = {0, 1, 4, 5, 8, 9};
        for (int least = 0; least < 10; least++) {
            for (String ones : new String[] {"0", "9"}) {
                CourtWash x = Texts.courtOf(Texts.day(least + ones) + lines);
                for (int l = 0; l < floors.length; l++) {
                    CHECK.due("floor " + floors[l] + " with " + least + ones, x.sun(l, 0), floors[l] >= least ? 24 : 0);
                }
            }
        }
    }

    private static void onesAreTheWind() {
        for (int wind = 0; wind < 10; wind++) {
            CourtWash x = Texts.courtOf(Texts.day("9" + wind) + LINE + "piece red 0 99 1;");
            x.hang(0, 0);
            x.quarters(1);
            CHECK.due("wind " + wind, x.piece(0, 0), 99 - wind);
        }
    }

    private static void numbersAreByQuarters() {
        for (int q = 0; q < 24; q++) {
            CourtWash x = Texts.courtOf(Texts.dayBut(q, "95", "90") + LINE + "piece red 0 99 1;");
            x.hang(0, 0);
            if (q > 0) {
                x.quarters(q);
            }
            CHECK.due("ahead of " + q, x.piece(0, 0), 99);
            x.quarters(1);
            CHECK.due("behind " + q, x.piece(0, 0), 94);
            x.quarters(23);
            CHECK.due("ahead of " + q + " again", x.piece(0, 0), 94);
            x.quarters(1);
            CHECK.due("behind " + q + " again", x.piece(0, 0), 89);
        }
    }

    private static void numbersOfLinesAreWithin() {
        within(DAY + "line @ 0 9;", 0, 9);
        within(DAY + "line 0 @ 9;", 0, 3);
        within(DAY + "line 0 0 @;", 1, 9);
        within(DAY + LINE + "line @ 1 9;", 0, 9);
        within(DAY + LINE + "line 5 @ 9;", 0, 3);
        within(DAY + LINE + "line 5 0 @;", 1, 9);
        CourtWash x = Texts.courtOf(DAY + "line 0 3 1;line 9 0 9;");
        int[][] told = {{0, 3, 1}, {9, 0, 9}};
        for (int l = 0; l < 2; l++) {
            for (int what = 0; what < 3; what++) {
                CHECK.due("line " + l + ", " + what, x.line(l, what), told[l][what]);
            }
        }
    }

    private static void linesAreAtUnlikePlaces() {
        reads(DAY + "line 3 1 9;line 3 2 9;line 4 1 9;line 1 3 9;", 4);
        faultyAfter(DAY + "line 3 1 9;", "line 3 1 9;", 7, 2);
        faultyAfter(DAY + "line 3 1 9;", "line 03 001 8;", 8, 2);
        faultyAfter(DAY + "line 3 1 9;line 4 1 9;", "line 3 1 9;", 7, 2);
        faultyAfter(DAY + "line 3 1 9;line 4 1 9;", "line 4 1 9;", 7, 2);
        faultyAfter(DAY + "line 3 1 9;", "line 3 1", 7, 2);
        faultyAfter(DAY + "line 3 1 9;", "line 3 1 0;", 7, 2);
        faultyAfter(DAY + Texts.linesOf(7), "line 6 0 9;", 7, 2);
    }

    private static void thereAreEightLines() {
        String eight = DAY + Texts.linesOf(8);
        CourtWash x = new CourtWash();
        CHECK.due("eight", Texts.read(x, eight), 8);
        CHECK.due("the last", x.line(7, 0), 7);
        CHECK.due("no ninth", x.line(8, 0), CourtWash.BAD);
        CHECK.due("how many", x.count(1), 8);
        faultyAfter(eight, "line 8 0 9;", 0, 3);
        faultyAfter(eight, " line", 1, 3);
        faultyAfter(eight, "line 0 0 10", 0, 3);
    }

    private static void rightsAreToLinesTold() {
        for (int n = 1; n <= 8; n++) {
            within(DAY + Texts.linesOf(n) + "right @ 0 23 5;", 0, n - 1);
        }
        CourtWash x = Texts.courtOf(DAY + Texts.linesOf(8) + "right 7 0 0 3;right 0 0 0 2;");
        for (int l = 0; l < 8; l++) {
            CHECK.due("right to " + l, x.line(l, 4), l == 7 ? 8 : l == 0 ? 4 : 0);
        }
    }

    private static void rightsAreInQuarters() {
        within(DAY + LINE + "right 0 @ 23 5;", 0, 23);
        for (int from = 0; from < 24; from++) {
            within(DAY + LINE + "right 0 " + from + " @ 5;", from, 23);
        }
        faultyAfter(DAY + LINE, "right 0 24 24 0;", 8, 2);
    }

    private static void rightsArePeoples() {
        within(DAY + LINE + "right 0 0 0 @;", 0, 5);
        String eight = DAY + LINE + "right 0 0 0 0;".repeat(7) + "right 0 0 0 5;";
        CourtWash x = new CourtWash();
        CHECK.due("eight", Texts.read(x, eight), 1);
        CHECK.due("how many", x.count(2), 8);
        CHECK.due("the last counts", x.line(0, 4), 33);
        faultyAfter(eight, "right 0 0 0 0;", 0, 3);
        faultyAfter(eight, "\nright", 1, 3);
        faultyAfter(eight, "right 9", 0, 3);
    }

    private static void piecesAreOfSorts() {
        String[] sorts = {"red", "black", "wool", "sheet", "sock"};
        for (int i = 0; i < 5; i++) {
            CourtWash x = Texts.courtOf(DAY + LINE + "piece " + sorts[i] + " 0 0 1;");
            CHECK.due(sorts[i], x.kind(0), i + 1);
        }
        for (String none : new String[] {"reds", "re", "piece", "line", "day", "socks", "socc", "blue", "Red", "7", ";", "blacl", "xool"}) {
            faultyAfter(DAY + LINE, "piece " + none + " 0 0 1;", 6, 1);
        }
    }

    private static void numbersOfPiecesAreWithin() {
        within(DAY + LINE + "piece red @ 0 1;", 0, 5);
        within(DAY + LINE + "piece wool 0 @ 1;", 0, 99);
        within(DAY + LINE + "piece sheet 0 0 @;", 1, 9);
        CourtWash x = Texts.courtOf(DAY + LINE + "piece black 0 99 1;piece sock 5 0 9;");
        int[][] told = {{99, CourtWash.NONE, 0, 0, 1}, {0, CourtWash.NONE, 0, 5, 9}};
        for (int p = 0; p < 2; p++) {
            for (int what = 0; what < 5; what++) {
                CHECK.due("piece " + p + ", " + what, x.piece(p, what), told[p][what]);
            }
        }
    }

    private static void thereAreTenPieces() {
        String ten = DAY + LINE + "piece sock 0 0 1;".repeat(9) + "piece red 5 9 1;";
        CourtWash x = new CourtWash();
        CHECK.due("ten", Texts.read(x, ten), 1);
        CHECK.due("how many", x.count(3), 10);
        CHECK.due("the last", x.piece(9, 0), 9);
        CHECK.due("no eleventh", x.piece(10, 0), CourtWash.BAD);
        CHECK.due("the last hangs", x.hang(9, 0), 8);
        faultyAfter(ten, "piece sock 0 0 1;", 0, 3);
        faultyAfter(ten, " \n piece", 3, 3);
        faultyAfter(ten, "piece piece", 0, 3);
    }

    /** A COURT with all that another one must not take over. */
    private static CourtWash used() {
        CourtWash x = Texts.courtOf(DAY + "line 2 0 9;line 1 0 9;right 1 5 9 0;piece red 0 90 1;piece wool 1 9 2;piece wool 2 9 3;");
        Texts.hang(x, 0, 1);
        x.quarters(3);
        CHECK.due("it is stained", x.piece(1, 2), 1);
        return x;
    }

    private static void courtsTakeThePlaceOfOthers() {
        CourtWash x = used();
        CHECK.due("another", Texts.read(x, Texts.day("93") + "line 8 3 7;piece sock 3 40 4;piece wool 4 50 5;"), 1);
        int[] counts = {0, 1, 0, 2, 0, 0, 0, 0};
        for (int what = 0; what < counts.length; what++) {
            CHECK.due("count " + what, x.count(what), counts[what]);
        }
        int[] line = {8, 3, 7, 0, 0, CourtWash.NONE};
        for (int what = 0; what < line.length; what++) {
            CHECK.due("line 0, " + what, x.line(0, what), line[what]);
        }
        int[][] pieces = {{40, CourtWash.NONE, 0, 3, 4}, {50, CourtWash.NONE, 0, 4, 5}};
        for (int p = 0; p < 2; p++) {
            for (int what = 0; what < 5; what++) {
                CHECK.due("piece " + p + ", " + what, x.piece(p, what), pieces[p][what]);
            }
        }
        CHECK.due("no line 1", x.line(1, 0), CourtWash.BAD);
        CHECK.due("no piece 2", x.piece(2, 0), CourtWash.BAD);
        CHECK.due("no sun", x.sun(0, 0), 0);
        x.hang(1, 0);
        CHECK.due("quarters from 0 on", x.quarters(1), 1);
        CHECK.due("its wind", x.piece(1, 0), 49);
        CHECK.due("the same text again", Texts.read(x, Texts.day("93") + "line 8 3 7;piece sock 3 40 4;piece wool 4 50 5;"), 1);
        CHECK.due("as told", x.piece(1, 0), 50);
    }

    private static void imagesAndRowsStay() {
        CourtWash x = used();
        x.image(0);
        Texts.rowOf(x, 0, 7, 3);
        Texts.rowOf(x, 5, -1);
        CHECK.due("another", Texts.read(x, Texts.EIGHT_LINES_ONE_PIECE), 8);
        CHECK.due("rows", x.count(0), 2);
        CHECK.due("an item", Texts.itemOf(x, 0, 0), 7);
        CHECK.due("another item", Texts.itemOf(x, 0, 1), 3);
        CHECK.due("of another row", Texts.itemOf(x, 5, 0), -1);
        CHECK.due("the image", x.restore(0), 1);
        int[] counts = {2, 2, 1, 3, 2, 1, 3};
        for (int what = 0; what < counts.length; what++) {
            CHECK.due("count " + what, x.count(what), counts[what]);
        }
        CHECK.due("no other image", x.restore(1), CourtWash.STATE);
    }

    /** The same text in bites of 1 to 8 bytes; what is above the lowest bytes must not matter. */
    private static void bytesAreFed() {
        byte[] text = (Texts.dayBut(5, "17", "3") + "line 7 2 5;piece sheet 4 61 8;").getBytes(StandardCharsets.ISO_8859_1);
        for (int n = 1; n <= 8; n++) {
            CourtWash x = new CourtWash();
            int fed = 0;
            while (fed < text.length) {
                int bite = Math.min(n, text.length - fed);
                long above = bite == 8 ? 0 : 0xA5A5A5A5A5A5A5A5L << 8 * bite;
                fed += bite;
                CHECK.due("bites of " + n, x.feed(above | Texts.packed(text, fed - bite, bite), bite), fed);
            }
            CHECK.due("a court in bites of " + n, x.court(), 1);
            CHECK.due("its line", x.line(0, 0), 7);
            CHECK.due("its piece", x.piece(0, 0), 61);
        }
        CourtWash x = new CourtWash();
        CHECK.due("eight", x.feed(0xFF20202020202020L, 8), 8);
        CHECK.due("the highest is the first", x.court(), -1000100);
        CHECK.due("seven", x.feed(0xFF20202020202020L, 7), 7);
        CHECK.due("it is not among seven", x.court(), -1000107);
        CHECK.due("eight", x.feed(0x20202020202020FFL, 8), 8);
        CHECK.due("the lowest is the last", x.court(), -1000107);
        CHECK.due("a byte of 0 is one, too", x.feed(0, 1), 1);
        CHECK.due("behind that", x.feed(0, 8), 9);
    }

    private static void feedingIsRefused() {
        CourtWash x = new CourtWash();
        for (int n : new int[] {0, -1, 9, Integer.MIN_VALUE, Integer.MAX_VALUE}) {
            CHECK.due("feed of " + n, x.feed(0, n), CourtWash.BAD);
        }
        CHECK.due("none came", x.count(7), 0);
        String court = DAY + LINE;
        Texts.feed(x, court + " ".repeat(492 - court.length()));
        for (int left = 8; left > 0; left--) {
            CHECK.due("bytes left: " + left, x.count(7), 500 - left);
            for (int n = left + 1; n <= 8; n++) {
                CHECK.due("feed of " + n + " where " + left + " are left", x.feed(0, n), CourtWash.FULL);
            }
            CHECK.due("none came", x.count(7), 500 - left);
            CHECK.due("BAD ahead of FULL", x.feed(0, 9), CourtWash.BAD);
            CHECK.due("one", x.feed(' ', 1), 501 - left);
        }
        for (int n = 1; n <= 8; n++) {
            CHECK.due("feed of " + n + " to a full tape", x.feed(0, n), CourtWash.FULL);
        }
        CHECK.due("none came at all", x.court(), 1);
        Texts.feed(x, " ".repeat(492));
        CHECK.due("eight fill it", x.feed(0x2020202020202020L, 8), 500);
    }

    private static void theTapeIsReadAndEmpty() {
        CourtWash x = new CourtWash();
        for (int n = 1; n <= 8; n++) {
            CHECK.due("a court of " + n, Texts.read(x, DAY + Texts.linesOf(n)), n);
            CHECK.due("the tape is empty", x.count(7), 0);
        }
        CHECK.due("nothing is read twice", x.court(), -1000100);
        Texts.feed(x, "day 1000");
        CHECK.due("a fault", x.court(), -1000104);
        CHECK.due("the tape is empty then, too", x.count(7), 0);
        CHECK.due("fed anew", x.feed('d', 1), 1);
    }
}
