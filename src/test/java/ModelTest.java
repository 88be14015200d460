import java.nio.charset.StandardCharsets;
import java.util.Arrays;
import java.util.Random;

/** Long runs of calls by chance (the same ones each time), held against the model: all promises together. */
public final class ModelTest {
    private static final int RUNS = 1500;
    /** Behind so many calls no other step begins: with one's last step an object has fewer than 512. */
    private static final int CALLS = 420;
    private static final String[] NAMES = {
        "row", "set", "copy", "drop", "court", "fault", "hang", "take", "quarters", "lay", "piece", "line", "dry",
        "plan", "whose", "sun", "rings", "rain", "image", "restore", "kind", "as", "ask", "trace", "count", "status",
    };
    private static final String[] SORTS = {"red", "wool", "sheet", "black", "sock"};
    private static final String[] SLIPS = {"", ";", " ", "\n", "x", "line", "right", "piece", "day", "0", "10", "24", "100", "1000", "#", "\u00e9"};
    private static final Check CHECK = new Check("ModelTest");

    private final Random random;
    private final CourtWash x = new CourtWash();
    private final Model model = new Model();
    private int calls;

    private ModelTest(long seed) {
        random = new Random(seed);
    }

    public static void main(String[] args) {
        for (int run = 0; run < RUNS && CHECK.wrong() == 0; run++) {
            new ModelTest(run).run();
        }
        CHECK.end();
    }

    private void run() {
        if (chance(90)) {
            readCourt();
        }
        while (calls < CALLS && CHECK.wrong() == 0) {
            int what = random.nextInt(100);
            if (what < 2) {
                readCourt();
            } else if (what < 3) {
                both("feed", random.nextLong(), random.nextInt(11) - 1);
            } else if (what < 6) {
                layByChance();
            } else if (what < 8) {
                ringsByChance();
            } else if (what < 10) {
                planByChance();
            } else if (what < 25) {
                both("hang", random.nextInt(11), random.nextInt(9));
            } else {
                anyCall();
            }
        }
    }

    private boolean chance(int percent) {
        return random.nextInt(100) < percent;
    }

    private void both(String name, long... a) {
        calls++;
        CHECK.due("call " + calls + " " + name + Arrays.toString(a), answer(name, a), model.call(name, a));
    }

    private void anyCall() {
        String name = NAMES[random.nextInt(NAMES.length)];
        if (name.equals("plan") && chance(70) || name.equals("court") && chance(80) || name.equals("lay") && isOpen()) {
            name = "piece";
        }
        long[] a = new long[5];
        for (int i = 0; i < a.length; i++) {
            a[i] = chance(3) ? random.nextInt() : chance(70) ? random.nextInt(6) : random.nextInt(44) - 2;
        }
        both(name, a);
    }

    /** What lay() finds where there is nothing to lay is left open by the document. */
    private boolean isOpen() {
        return model.call("count", 1) > 0 && model.call("count", 3) == 0;
    }

    private void planByChance() {
        int n = chance(25) ? 4 : 1 + random.nextInt(3);
        for (int p = 0; p < n; p++) {
            if (chance(95)) {
                both("take", p);
            }
        }
        both("plan", n, -1);
        both("plan", n, random.nextInt(n));
    }

    private void layByChance() {
        int row = random.nextInt(8);
        both("row", row, random.nextInt(3), 12);
        for (int i = 0; i < 12; i++) {
            both("set", row, i, random.nextInt(chance(90) ? 6 : 10) - 1);
        }
        if (!isOpen()) {
            both("lay", row, random.nextInt(3));
        }
    }

    private void ringsByChance() {
        int row = random.nextInt(8);
        int n = 2 + random.nextInt(5);
        both("row", row, random.nextInt(3), n);
        int shift = random.nextInt(8);
        int step = 1 + 2 * random.nextInt(4);
        for (int i = 0; i < n; i++) {
            both("set", row, i, chance(98) ? (shift + step * i) % 8 : random.nextInt(9) - 1);
        }
        for (int k = 0; k < n; k++) {
            both("rings", row, n, k);
        }
    }

    private void readCourt() {
        String text = textByChance();
        if (chance(30)) {
            int at = random.nextInt(text.length() + 1);
            int to = chance(50) ? at : Math.min(text.length(), at + 1 + random.nextInt(3));
            text = text.substring(0, at) + SLIPS[random.nextInt(SLIPS.length)] + text.substring(to);
        }
        byte[] bytes = text.getBytes(StandardCharsets.ISO_8859_1);
        for (int at = 0; at < bytes.length; at += 8) {
            int n = Math.min(8, bytes.length - at);
            both("feed", Texts.packed(bytes, at, n), n);
        }
        both("court");
        both("fault");
    }

    private String textByChance() {
        StringBuilder text = new StringBuilder("day");
        int calm = random.nextInt(10);
        int low = random.nextInt(10);
        for (int q = 0; q < 24; q++) {
            text.append(" ").append(10 * random.nextInt(low + 1) + random.nextInt(calm + 1));
        }
        text.append(";");
        int lines = chance(60) ? 8 : 1 + random.nextInt(9);
        int columns = 1 + random.nextInt(4);
        boolean[] taken = new boolean[40];
        for (int l = 0; l < lines; l++) {
            int place = random.nextInt(10 * columns);
            if (!taken[place] || chance(1)) {
                taken[place] = true;
                text.append("line ").append(place % 10).append(" ").append(place / 10).append(" ").append(1 + random.nextInt(9)).append(";");
            }
        }
        int rights = chance(50) ? 0 : random.nextInt(4);
        for (int r = 0; r < rights; r++) {
            int from = random.nextInt(24);
            text.append("right ").append(random.nextInt(2)).append(" ").append(from).append(" ")
                    .append(from + random.nextInt(24 - from)).append(" ").append(random.nextInt(6)).append(";");
        }
        int pieces = chance(25) ? 10 : random.nextInt(chance(5) ? 12 : 9);
        int wet = 1 + random.nextInt(100);
        int wide = chance(50) ? 9 : 3;
        for (int p = 0; p < pieces; p++) {
            text.append("piece ").append(SORTS[random.nextInt(5)]).append(" ").append(random.nextInt(6)).append(" ")
                    .append(random.nextInt(wet)).append(" ").append(1 + random.nextInt(wide)).append(";");
        }
        return text.toString();
    }

    private int answer(String name, long[] a) {
        int[] b = new int[5];
        for (int i = 0; i < a.length; i++) {
            b[i] = (int) a[i];
        }
        switch (name) {
            case "row": return x.row(b[0], b[1], b[2]);
            case "set": return x.set(b[0], b[1], b[2]);
            case "copy": return x.copy(b[0], b[1], b[2], b[3], b[4]);
            case "drop": return x.drop(b[0]);
            case "feed": return x.feed(a[0], b[1]);
            case "court": return x.court();
            case "fault": return x.fault();
            case "hang": return x.hang(b[0], b[1]);
            case "take": return x.take(b[0]);
            case "quarters": return x.quarters(b[0]);
            case "lay": return x.lay(b[0], b[1]);
            case "piece": return x.piece(b[0], b[1]);
            case "line": return x.line(b[0], b[1]);
            case "dry": return x.dry();
            case "plan": return x.plan(b[0], b[1]);
            case "whose": return x.whose(b[0], b[1]);
            case "sun": return x.sun(b[0], b[1]);
            case "rings": return x.rings(b[0], b[1], b[2]);
            case "rain": return x.rain(b[0], b[1]);
            case "image": return x.image(b[0]);
            case "restore": return x.restore(b[0]);
            case "kind": return x.kind(b[0]);
            case "as": return x.as(b[0], b[1]);
            case "ask": return x.ask(b[0], b[1]);
            case "trace": return x.trace(b[0]);
            case "count": return x.count(b[0]);
            default: return x.status();
        }
    }
}
