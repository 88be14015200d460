import java.util.ArrayList;
import java.util.List;
import java.util.regex.Matcher;
import java.util.regex.Pattern;

/** FAULTS in Terms 1, and promises 7 and 8: court of a faulty text, fault. */
public final class FaultsTest {
    private static final Check CHECK = new Check("FaultsTest");
    private static final String DAY = Texts.day("1");
    private static final String LINE = "line 0 0 9;";
    private static final String RIGHT = "right 0 0 0 0;";
    private static final String PIECE = "piece sock 0 0 1;";
    private static final String WHOLE = DAY + LINE + "line 9 3 1;\n" + "right 1 0 23 5; right 0 7 7 0;" + "piece red 0 0 9;piece sock 5 99 1;";

    private record Token(String text, int place) {
    }

    public static void main(String[] args) {
        CHECK.words("FAULTS, the first TOKEN that has one (its first byte),", FaultsTest::theFirstCounts);
        CHECK.words("of one TOKEN the least:", FaultsTest::ofOneTokenTheLeastCounts);
        CHECK.words("1 it cannot stand there, or is none", FaultsTest::tokensCannotStand);
        CHECK.words("(a run of four figures or more, at its first;", FaultsTest::runsOfFourFiguresAreNone);
        CHECK.words("the end: how many bytes there are);", FaultsTest::textsEndTooSoon);
        CHECK.words("2 a NUMBER that is not as told", FaultsTest::numbersAreNotAsTold);
        CHECK.words("(COLUMN of a second line at one place, too);", FaultsTest::columnsOfSecondLines);
        CHECK.words("3 more of a sort than there is room for (its word).", FaultsTest::sortsHaveNoRoom);
        CHECK.words("-1000100 less the place of a FAULT:", FaultsTest::placesAreTold);
        CHECK.words("all but the tape, and what fault() tells, stays.", FaultsTest::allStays);
        CHECK.words("The number of the latest FAULT; 0 before one.", FaultsTest::theLatestFaultIsTold);
        CHECK.end();
    }

    private static void faulty(String text, int place, int number) {
        CourtWash x = new CourtWash();
        CHECK.due(text, Texts.read(x, text), -1000100 - place);
        CHECK.due("fault of " + text, x.fault(), number);
        CHECK.due("no court after " + text, x.dry(), CourtWash.STATE);
    }

    private static void faultyAfter(String good, String rest, int place, int number) {
        faulty(good + rest, good.length() + place, number);
    }

    private static List<Token> tokens() {
        List<Token> tokens = new ArrayList<>();
        Matcher m = Pattern.compile("[a-z]+|[0-9]+|;").matcher(WHOLE);
        while (m.find()) {
            tokens.add(new Token(m.group(), m.start()));
        }
        return tokens;
    }

    private static String with(Token t, String other) {
        return WHOLE.substring(0, t.place) + other + WHOLE.substring(t.place + t.text.length());
    }

    private static void theFirstCounts() {
        faulty("day 100 1000 #", 4, 2);
        faulty("day 1000 100 #", 4, 1);
        faulty("day # 1000 100", 4, 1);
        faulty("# day 100", 0, 1);
        faultyAfter(DAY, "line 10 4 0;", 5, 2);
        faultyAfter(DAY, "line 9 4 0;", 7, 2);
        faultyAfter(DAY, "line 9 3 0 0", 9, 2);
        faultyAfter(DAY + LINE + RIGHT.repeat(8), "right 9 99 99 9 #", 0, 3);
        faultyAfter(DAY + LINE, "right 1 24 24 6;", 6, 2);
        faultyAfter(DAY + LINE, "right 0 24 24 6;", 8, 2);
        faultyAfter(DAY + LINE, "right 0 23 24 6;", 11, 2);
        faultyAfter(DAY + LINE, "right 0 23 23 6#", 14, 2);
        faultyAfter(DAY + LINE, "piece blue 6 100 10;", 6, 1);
        faultyAfter(DAY + LINE, "piece wool 6 100 10;", 11, 2);
        faultyAfter(DAY + LINE, "piece wool 5 100 10;", 13, 2);
        faultyAfter(DAY + LINE, "piece wool 5 99 10#", 16, 2);
        faultyAfter(DAY + LINE, "piece wool 5 99 9#", 17, 1);
    }

    private static void ofOneTokenTheLeastCounts() {
        faulty("day 1000", 4, 1);
        faulty("day 0100", 4, 1);
        faultyAfter(DAY + LINE, "line 0 0000 9;", 7, 1);
        faultyAfter(DAY + Texts.linesOf(8) + RIGHT, "line 9 0 9;", 0, 1);
        faultyAfter(DAY + Texts.linesOf(8) + PIECE, "line 9 0 9;", 0, 1);
        faultyAfter(DAY + LINE + RIGHT.repeat(8) + PIECE, "right 0 0 0 0;", 0, 1);
        faultyAfter(DAY + LINE + PIECE.repeat(10), "piece", 0, 3);
    }

    private static void tokensCannotStand() {
        for (Token t : tokens()) {
            boolean isNumber = Character.isDigit(t.text.charAt(0));
            boolean isSign = t.text.equals(";");
            String[] others = isNumber ? new String[] {";", " red ", " line ", "#", " day ", "-1"}
                    : isSign ? new String[] {" 1", " line ", "#", ":", " red "}
                    : new String[] {"7", ";", "#", "X", "zz", "day" + t.text};
            for (String other : others) {
                int blanks = other.startsWith(" ") ? 1 : 0;
                faulty(with(t, other), t.place + blanks, 1);
            }
        }
        faultyAfter(WHOLE, "#", 0, 1);
        faultyAfter(WHOLE, ";", 0, 1);
        faultyAfter(WHOLE, " 5", 1, 1);
        faultyAfter(WHOLE, "\nday", 1, 1);
    }

    private static void runsOfFourFiguresAreNone() {
        for (Token t : tokens()) {
            if (Character.isDigit(t.text.charAt(0))) {
                faulty(with(t, "0000"), t.place, 1);
                faulty(with(t, "0001"), t.place, 1);
                faulty(with(t, "9999"), t.place, 1);
                faulty(with(t, "123456789012345678901234567890"), t.place, 1);
            }
        }
        faultyAfter(WHOLE, "1000", 0, 1);
    }

    /** WHOLE, cut ahead of each of its TOKENS: it is whole behind each ';' from the first line's on. */
    private static void textsEndTooSoon() {
        int signs = 0;
        for (Token t : tokens()) {
            String begun = WHOLE.substring(0, t.place);
            if (begun.trim().endsWith(";") && signs >= 2) {
                CHECK.that("read: " + begun, Texts.read(new CourtWash(), begun) > 0);
            } else {
                faulty(begun, t.place, 1);
                faulty(begun + " \n ", t.place + 3, 1);
            }
            signs += t.text.equals(";") ? 1 : 0;
        }
        faulty(" ".repeat(500), 500, 1);
        String line = DAY + "line 0 0 9";
        faulty(line + "\n".repeat(500 - line.length()), 500, 1);
    }

    /** Each NUMBER of WHOLE can be none of 100, 999. */
    private static void numbersAreNotAsTold() {
        for (Token t : tokens()) {
            if (Character.isDigit(t.text.charAt(0))) {
                faulty(with(t, "100"), t.place, 2);
                faulty(with(t, "999"), t.place, 2);
            }
        }
        faultyAfter(DAY, "line 0 0 0;", 9, 2);
        faultyAfter(DAY + LINE, "right 0 5 4 0;", 10, 2);
        faultyAfter(DAY + LINE, "piece red 0 0 000;", 14, 2);
    }

    private static void columnsOfSecondLines() {
        faultyAfter(DAY + LINE, "line 0 0 9;", 7, 2);
        faultyAfter(DAY + LINE, "line  00  00 9;", 10, 2);
        faultyAfter(DAY + LINE, "line 0 0 10;", 7, 2);
        faultyAfter(DAY + LINE, "line 0 0 #", 7, 2);
        faultyAfter(DAY + LINE + "line 1 0 9;line 0 1 9;", "line 1 0 9;", 7, 2);
        faultyAfter(DAY + LINE + "line 1 0 9;line 0 1 9;", "line 0 1 9;", 7, 2);
        CHECK.due("others", Texts.read(new CourtWash(), DAY + LINE + "line 1 0 9;line 0 1 9;line 1 1 9;"), 4);
    }

    private static void sortsHaveNoRoom() {
        String[] full = {DAY + Texts.linesOf(8), DAY + LINE + RIGHT.repeat(8), DAY + LINE + PIECE.repeat(10)};
        String[] more = {"line 9 0 9;", RIGHT, PIECE};
        for (int i = 0; i < full.length; i++) {
            CHECK.that("full: " + full[i], Texts.read(new CourtWash(), full[i]) > 0);
            faultyAfter(full[i], more[i], 0, 3);
            faultyAfter(full[i] + " \n", more[i], 0, 3);
            faultyAfter(full[i], more[i].substring(0, 5).trim(), 0, 3);
        }
        CHECK.due("rights and pieces behind eight lines", Texts.read(new CourtWash(), full[0] + RIGHT + PIECE), 8);
        CHECK.due("pieces behind eight rights", Texts.read(new CourtWash(), full[1] + PIECE), 1);
    }

    private static void placesAreTold() {
        faulty("", 0, 1);
        faulty("#", 0, 1);
        faulty(" ", 1, 1);
        for (int place = 0; place < 500; place += 83) {
            faulty(" ".repeat(place) + "#", place, 1);
        }
        faulty(" ".repeat(499) + "#", 499, 1);
    }

    private static void allStays() {
        String[] texts = {"", "#", "day 100", DAY, DAY + LINE + "line 1 0 9;right 0 0 0 0;piece wool 3 3 3;7", DAY + Texts.linesOf(8) + "line"};
        for (String text : texts) {
            CourtWash x = Scene.whole();
            CHECK.that("a fault: " + text, x.court() < -1000100 && Texts.read(x, text) <= -1000100);
            CourtWash twin = Scene.whole();
            CHECK.that("a fault", twin.court() < -1000100);
            CHECK.due("the tape is empty", x.count(7), 0);
            CHECK.due("status stays", x.status(), twin.status());
            x.fault();
            Texts.read(x, "#");
            Texts.read(twin, "#");
            CHECK.same("all after " + text, Scene.seen(x), Scene.seen(twin));
        }
    }

    private static void theLatestFaultIsTold() {
        CourtWash x = new CourtWash();
        CHECK.due("before one", x.fault(), 0);
        Texts.read(x, DAY + LINE);
        CHECK.due("a court has none", x.fault(), 0);
        Texts.read(x, DAY + LINE + PIECE.repeat(11));
        CHECK.due("3", x.fault(), 3);
        CHECK.due("3 again", x.fault(), 3);
        Texts.read(x, "day 100");
        CHECK.due("2", x.fault(), 2);
        Texts.read(x, DAY + LINE);
        CHECK.due("2 stays where a court is read", x.fault(), 2);
        x.court();
        CHECK.due("1", x.fault(), 1);
        x.feed(0, 9);
        x.image(0);
        x.restore(0);
        CHECK.due("1 stays", x.fault(), 1);
        Texts.read(x, DAY + LINE + PIECE.repeat(11));
        CHECK.due("3 anew", x.fault(), 3);
    }
}
