import java.util.function.ToIntFunction;

/** The beginning of Terms: numbers, sets, refusals, findings; and that an object has 512 calls. */
public final class RefusalsTest {
    private static final int BAD = CourtWash.BAD, STATE = CourtWash.STATE, FULL = CourtWash.FULL, NONE = CourtWash.NONE;
    private static final Check CHECK = new Check("RefusalsTest");

    public static void main(String[] args) {
        CHECK.words("An object is used for at most 512 calls after it has been made;", RefusalsTest::objectsHave512Calls);
        CHECK.words("Numbers go from 0 on.", RefusalsTest::numbersGoFrom0On);
        CHECK.words("All that is divided is cut towards 0.", RefusalsTest::divisionsAreCut);
        CHECK.words("Sets are bits.", RefusalsTest::setsAreBits);
        CHECK.words("Refusals are answers, the first of these that fits, but as told: BAD (a number is not as told; there is no such thing), STATE (as told), FULL (as told), then FINDINGS,",
                RefusalsTest::theFirstThatFits);
        CHECK.words("of several the first in time:", RefusalsTest::theFirstInTime);
        CHECK.words("-1000010 less 1 NULL (a ROW that is missing), 2 PLACE (no such place of a ROW), 3 KIND (a PIECE that is not that), 4 SIZE (fewer than none), 5 STORE (ROWS of two LANES).",
                RefusalsTest::findingsHaveNumbers);
        CHECK.words("What is refused, or found, changes nothing but status().", RefusalsTest::refusalsChangeNothing);
        CHECK.words("FORETOLD (nothing changes):", RefusalsTest::whatIsForetoldChangesNothing);
        CHECK.end();
    }

    private static void objectsHave512Calls() {
        CourtWash x = new CourtWash();
        for (int i = 1; i <= 511; i++) {
            CHECK.due("court " + i, x.court(), -1000100);
        }
        CHECK.due("call 512", x.fault(), 1);
        CourtWash y = Texts.courtOf(Texts.day("0") + "line 0 0 1;piece red 0 99 1;");
        y.hang(0, 0);
        int calls = (Texts.day("0").length() + 27 + 7) / 8 + 2;
        for (int i = 1; calls + i <= 512; i++) {
            CHECK.due("quarters " + i, y.quarters(96), 96 * i);
        }
    }

    private static void numbersGoFrom0On() {
        CourtWash x = Scene.whole();
        CHECK.due("row 0", x.set(0, 0, 5), 5);
        CHECK.due("row -1", x.set(-1, 0, 5), BAD);
        CHECK.due("item -1", x.set(0, -1, 5), Finding.PLACE);
        CHECK.due("line 0", x.line(0, 0), 4);
        CHECK.due("line -1", x.line(-1, 0), BAD);
        CHECK.due("piece 0", x.piece(0, 4), 2);
        CHECK.due("piece -1", x.piece(-1, 4), BAD);
        CHECK.due("image 0", x.restore(0), 1);
        CHECK.due("image -1", x.restore(-1), BAD);
        CHECK.due("number 0 of the trace", x.trace(0), 23);
        CHECK.due("number -1 of the trace", x.trace(-1), NONE);
    }

    private static void divisionsAreCut() {
        CourtWash x = Texts.courtOf(Texts.day("19") + "line 1 0 9;line 0 0 9;" + "piece sock 0 0 1;".repeat(7));
        CHECK.due("tens of 19", x.sun(0, 0) - x.sun(1, 0), 24);
        int[] staysDry = {1000000, 670000, 448900, 300763, 201511, 135012, 90458};
        int sum = 0;
        for (int p = 0; p < staysDry.length; p++) {
            x.hang(p, 0);
            sum += 1000000 - staysDry[p];
            CHECK.due("D of " + p, x.rain(33, 0), sum);
        }
    }

    private static void setsAreBits() {
        CourtWash x = Texts.courtOf(Texts.STILL + "line 1 0 9;line 3 1 9;right 0 0 0 0;right 0 0 0 5;right 0 0 0 3;"
                + "piece sock 0 0 1;".repeat(9) + "piece sock 0 0 1;");
        Texts.hang(x, 0, 1, -1, 1, -1, -1, -1, -1, -1, 0);
        CHECK.due("pieces on 0", x.line(0, 3), 1 + 512);
        CHECK.due("pieces on 1", x.line(1, 3), 2 + 8);
        CHECK.due("people", x.line(0, 4), 1 + 8 + 32);
        CHECK.due("none", x.line(1, 4), 0);
        CHECK.due("fallen", x.whose(0, 0), 1 + 512);
    }

    /** Calls for which several refusals fit. */
    private static void theFirstThatFits() {
        CourtWash x = Scene.whole();
        CHECK.due("BAD ahead of SIZE", x.row(8, 0, -1), BAD);
        CHECK.due("BAD ahead of SIZE", x.row(0, 3, -1), BAD);
        CHECK.due("BAD ahead of NULL", x.copy(3, 0, 8, 0, 0), BAD);
        CHECK.due("BAD ahead of NULL", x.copy(8, 0, 3, 0, 0), BAD);
        CHECK.due("BAD ahead of STORE", x.rings(0, 7, 0), BAD);
        CHECK.due("BAD ahead of STATE: no such line", x.hang(0, 3), BAD);
        CHECK.due("STATE ahead of FULL: it hangs", x.hang(0, 1), STATE);
        CHECK.due("BAD ahead of NULL", x.rings(3, 1, 0), BAD);
        CHECK.due("BAD ahead of NULL", x.rings(3, 2, 2), BAD);
        CHECK.due("BAD ahead of PLACE", x.rings(5, 7, 0), BAD);
        CHECK.due("BAD ahead of NONE: 0 hangs", x.plan(1, 1), BAD);
        CHECK.due("BAD ahead of KIND", x.as(6, 2), BAD);
        CHECK.due("BAD ahead of KIND", x.as(0, 6), BAD);
        CHECK.due("BAD ahead of STATE: not kept", x.restore(2), BAD);
        CourtWash y = Scene.bare();
        CHECK.due("BAD ahead of STATE: no court", y.image(2), BAD);
        CourtWash z = Texts.courtOf(Texts.STILL + "line 0 0 1;right 0 0 0 1;piece red 0 0 2;");
        CHECK.due("STATE ahead of FULL: a right", z.hang(0, 0), STATE);
        Texts.feed(z, " ".repeat(500));
        CHECK.due("BAD ahead of FULL", z.feed(0, 9), BAD);
        CHECK.due("BAD ahead of FULL", z.feed(0, 0), BAD);
    }

    private static void theFirstInTime() {
        CourtWash x = Scene.whole();
        CHECK.due("NULL ahead of PLACE: set", x.set(3, -1, 0), Finding.NULL);
        CHECK.due("status", x.status(), 1);
        CHECK.due("STORE ahead of PLACE: copy", x.copy(0, 0, 1, 0, 41), Finding.STORE);
        CHECK.due("status", x.status(), 5);
        CHECK.due("NULL ahead of PLACE: copy from none", x.copy(3, 0, 1, -1, 1), Finding.NULL);
        CHECK.due("NULL ahead of PLACE: copy to none", x.copy(1, -1, 3, 0, 1), Finding.NULL);
        CHECK.due("NULL ahead of PLACE: lay", x.lay(3, -1), Finding.NULL);
        CHECK.due("PLACE ahead of an item that is BAD", x.lay(0, 1), Finding.PLACE);
        CHECK.due("status", x.status(), 2);
        CHECK.due("PLACE ahead of an item that is BAD: rings", x.rings(7, 4, 0), Finding.PLACE);
    }

    private static void findingsHaveNumbers() {
        CourtWash x = Scene.whole();
        int[][] found = {{x.drop(3), x.status()}, {x.set(0, 6, 0), x.status()}, {x.as(0, 3), x.status()},
            {x.row(0, 0, -1), x.status()}, {x.copy(0, 0, 1, 0, 0), x.status()}};
        for (int number = 1; number <= 5; number++) {
            CHECK.due("finding " + number, found[number - 1][0], -1000010 - number);
            CHECK.due("status of " + number, found[number - 1][1], number);
        }
    }

    private static void refused(String what, ToIntFunction<CourtWash> call, int answer) {
        int status = answer <= Finding.NULL && answer >= Finding.STORE ? -1000010 - answer : 5;
        Scene.changesNothing(CHECK, what, Scene::whole, call, answer, status);
    }

    private static void refusedBare(String what, ToIntFunction<CourtWash> call, int answer) {
        Scene.changesNothing(CHECK, what + " without a court", Scene::bare, call, answer, 5);
    }

    private static void refusalsChangeNothing() {
        callsWithRowsAreRefused();
        copiesAreRefused();
        hangingIsRefused();
        layingIsRefused();
        foretellingIsRefused();
        askingIsRefused();
        allIsRefusedWithoutACourt();
    }

    private static void callsWithRowsAreRefused() {
        refused("row 8", x -> x.row(8, 0, 1), BAD);
        refused("row -1", x -> x.row(-1, 0, 1), BAD);
        refused("lane 3", x -> x.row(0, 3, 1), BAD);
        refused("lane -1", x -> x.row(0, -1, 1), BAD);
        refused("41 items", x -> x.row(0, 0, 41), BAD);
        refused("-1 items", x -> x.row(0, 0, -1), Finding.SIZE);
        refused("-1 items of a missing row", x -> x.row(3, 0, -1), Finding.SIZE);
        refused("set 8", x -> x.set(8, 0, 3), BAD);
        refused("set -1", x -> x.set(-1, 0, 3), BAD);
        refused("set missing", x -> x.set(3, 0, 3), Finding.NULL);
        refused("set behind the end", x -> x.set(1, 6, 3), Finding.PLACE);
        refused("set ahead of the beginning", x -> x.set(1, -1, 3), Finding.PLACE);
        refused("set of the empty one", x -> x.set(5, 0, 3), Finding.PLACE);
        refused("drop 8", x -> x.drop(8), BAD);
        refused("drop -1", x -> x.drop(-1), BAD);
        refused("drop missing", x -> x.drop(3), Finding.NULL);
        refused("feed 0", x -> x.feed(0, 0), BAD);
        refused("feed 9", x -> x.feed(0, 9), BAD);
    }

    private static void copiesAreRefused() {
        refused("copy of 8", x -> x.copy(8, 0, 0, 0, 1), BAD);
        refused("copy to 8", x -> x.copy(0, 0, 8, 0, 1), BAD);
        refused("copy of missing", x -> x.copy(3, 0, 0, 0, 1), Finding.NULL);
        refused("copy to missing", x -> x.copy(0, 0, 3, 0, 1), Finding.NULL);
        refused("copy to another lane", x -> x.copy(0, 0, 1, 0, 1), Finding.STORE);
        refused("copy onto itself, beyond the end", x -> x.copy(0, 0, 0, 1, 6), Finding.PLACE);
        refused("copy to a shorter one", x -> x.copy(0, 0, 7, 0, 4), Finding.PLACE);
        refused("copy of a shorter one", x -> x.copy(7, 0, 0, 0, 4), Finding.PLACE);
        refused("copy from -1", x -> x.copy(0, -1, 7, 0, 2), Finding.PLACE);
        refused("copy to -1", x -> x.copy(0, 0, 7, -1, 2), Finding.PLACE);
        refused("copy of -1", x -> x.copy(0, 0, 7, 0, -1), Finding.PLACE);
    }

    private static void hangingIsRefused() {
        refused("hang 6", x -> x.hang(6, 0), BAD);
        refused("hang -1", x -> x.hang(-1, 0), BAD);
        refused("hang on 3", x -> x.hang(5, 3), BAD);
        refused("hang on -1", x -> x.hang(5, -1), BAD);
        refused("hang what hangs there", x -> x.hang(0, 0), STATE);
        refused("hang what hangs elsewhere", x -> x.hang(3, 0), STATE);
        refused("hang on another's line", x -> x.hang(5, 2), STATE);
        refused("hang a sheet beside", x -> x.hang(2, 0), FULL);
        refused("hang too much", x -> x.hang(4, 1), FULL);
        refused("take 6", x -> x.take(6), BAD);
        refused("take -1", x -> x.take(-1), BAD);
        refused("take what does not hang", x -> x.take(2), STATE);
        refused("0 quarters", x -> x.quarters(0), BAD);
        refused("97 quarters", x -> x.quarters(97), BAD);
        refused("piece 6", x -> x.piece(6, 0), BAD);
        refused("piece, 5", x -> x.piece(0, 5), BAD);
        refused("line 3", x -> x.line(3, 0), BAD);
        refused("line, 6", x -> x.line(0, 6), BAD);
    }

    private static void layingIsRefused() {
        refused("lay 8", x -> x.lay(8, 0), BAD);
        refused("lay -1", x -> x.lay(-1, 0), BAD);
        refused("lay missing", x -> x.lay(3, 0), Finding.NULL);
        refused("lay too short", x -> x.lay(1, 1), Finding.PLACE);
        refused("lay from -1", x -> x.lay(1, -1), Finding.PLACE);
        refused("lay on a line that is not there", x -> x.lay(0, 0), BAD);
        refused("lay on another's line", x -> x.lay(1, 0), STATE);
        refused("lay without room", x -> x.lay(2, 0), FULL);
    }

    private static void foretellingIsRefused() {
        refused("plan of 0", x -> x.plan(0, -1), BAD);
        refused("plan of 5", x -> x.plan(5, -1), BAD);
        refused("plan, 2 of 2", x -> x.plan(2, 2), BAD);
        refused("plan, -2", x -> x.plan(2, -2), BAD);
        refused("plan of what hangs", x -> x.plan(1, -1), NONE);
        refused("whose 10", x -> x.whose(10, 0), BAD);
        refused("whose in column 4", x -> x.whose(0, 4), BAD);
        refused("sun of 3", x -> x.sun(3, 0), BAD);
        refused("sun with 10", x -> x.sun(0, 10), BAD);
        refused("rings by 8", x -> x.rings(8, 2, 0), BAD);
        refused("rings of 1", x -> x.rings(7, 1, 0), BAD);
        refused("rings of 7", x -> x.rings(7, 7, 0), BAD);
        refused("rings, 2 of 2", x -> x.rings(7, 2, 2), BAD);
        refused("rings by a missing row", x -> x.rings(3, 2, 0), Finding.NULL);
        refused("rings by a short row", x -> x.rings(7, 4, 0), Finding.PLACE);
        refused("rings with no line", x -> x.rings(0, 3, 0), BAD);
        refused("rings with one told twice", x -> x.rings(2, 2, 0), BAD);
        refused("rain with -1", x -> x.rain(-1, 0), BAD);
        refused("rain with 101", x -> x.rain(101, 0), BAD);
        refused("rain, 2", x -> x.rain(50, 2), BAD);
        refused("image 2", x -> x.image(2), BAD);
        refused("image -1", x -> x.image(-1), BAD);
        refused("restore 2", x -> x.restore(2), BAD);
        refused("restore -1", x -> x.restore(-1), BAD);
        refused("restore what was not kept", x -> x.restore(1), STATE);
    }

    private static void askingIsRefused() {
        refused("kind 6", x -> x.kind(6), BAD);
        refused("as 6", x -> x.as(6, 0), BAD);
        refused("as, 6", x -> x.as(0, 6), BAD);
        refused("as, -1", x -> x.as(0, -1), BAD);
        refused("a red one as a sheet", x -> x.as(0, 4), Finding.KIND);
        refused("ask 6", x -> x.ask(6, 0), BAD);
        refused("ask -1", x -> x.ask(-1, 0), BAD);
        refused("ask, 2", x -> x.ask(0, 2), BAD);
        refused("ask, -1", x -> x.ask(0, -1), BAD);
        refused("trace 16", x -> x.trace(16), NONE);
        refused("count 8", x -> x.count(8), BAD);
        refused("count -1", x -> x.count(-1), BAD);
    }

    private static void allIsRefusedWithoutACourt() {
        refusedBare("hang", x -> x.hang(0, 0), BAD);
        refusedBare("take", x -> x.take(0), BAD);
        refusedBare("quarters", x -> x.quarters(1), STATE);
        refusedBare("lay", x -> x.lay(0, 0), STATE);
        refusedBare("piece", x -> x.piece(0, 0), BAD);
        refusedBare("line", x -> x.line(0, 0), BAD);
        refusedBare("dry", x -> x.dry(), STATE);
        refusedBare("plan", x -> x.plan(1, -1), STATE);
        refusedBare("whose", x -> x.whose(0, 0), STATE);
        refusedBare("sun", x -> x.sun(0, 0), BAD);
        refusedBare("rings", x -> x.rings(7, 3, 0), STATE);
        refusedBare("rain", x -> x.rain(50, 0), STATE);
        refusedBare("image", x -> x.image(0), STATE);
        refusedBare("restore", x -> x.restore(0), STATE);
        refusedBare("kind", x -> x.kind(0), BAD);
        refusedBare("as", x -> x.as(0, 0), BAD);
        refusedBare("ask", x -> x.ask(0, 0), BAD);
    }

    private static CourtWash withFourDown() {
        CourtWash x = Scene.whole();
        x.take(0);
        x.take(1);
        x.take(3);
        return x;
    }

    private static void whatIsForetoldChangesNothing() {
        Scene.changesNothing(CHECK, "dry", Scene::whole, x -> x.dry(), 14, 5);
        int[] times = {7, 14, 14, 14};
        for (int n = 1; n <= 4; n++) {
            int many = n;
            Scene.changesNothing(CHECK, "plan of " + n, RefusalsTest::withFourDown, x -> x.plan(many, -1), times[n - 1], 5);
        }
        Scene.changesNothing(CHECK, "a line of a plan", RefusalsTest::withFourDown, x -> x.plan(1, 0), 0, 5);
        Scene.changesNothing(CHECK, "whose", Scene::whole, x -> x.whose(0, 0), 3, 5);
        Scene.changesNothing(CHECK, "sun", Scene::whole, x -> x.sun(0, 1), 24, 5);
        Scene.changesNothing(CHECK, "rings", Scene::whole, x -> x.rings(7, 3, 0), 2, 0);
        Scene.changesNothing(CHECK, "rain", Scene::whole, x -> x.rain(100, 0), 3000000, 5);
        Scene.changesNothing(CHECK, "what to take in", Scene::whole, x -> x.rain(100, 1), 0, 5);
    }
}
