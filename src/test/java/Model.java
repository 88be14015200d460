import java.util.ArrayList;
import java.util.Arrays;
import java.util.List;
import java.util.regex.Matcher;
import java.util.regex.Pattern;

/**
 * The document once more, as slow and literal as can be, to hold the program against: plans by
 * trying every row of LINES, no store used twice, refusals as exceptions.
 */
final class Model {
    private static final int NONE = -1000000, BAD = -1000001, STATE = -1000002, FULL = -1000003;
    private static final List<String> SORTS = List.of("", "red", "black", "wool", "sheet", "sock");

    private static final class Refused extends Exception {
        private static final long serialVersionUID = 1;
        final int answer;

        Refused(int answer) {
            this.answer = answer;
        }
    }

    private static final class Fault extends Exception {
        private static final long serialVersionUID = 1;
        final int number;
        final int place;

        Fault(int number, int place) {
            this.number = number;
            this.place = place;
        }
    }

    private record Token(String text, int place) {
    }

    private record Line(int floor, int column, int wide) {
    }

    private record Right(int line, int from, int to, int who) {
    }

    private static final class Piece {
        String sort;
        int who;
        int wet;
        int yards;
        Integer line;
        boolean stained;

        Piece twin() {
            Piece p = new Piece();
            p.sort = sort;
            p.who = who;
            p.wet = wet;
            p.yards = yards;
            p.line = line;
            p.stained = stained;
            return p;
        }
    }

    private static final class Court {
        List<Integer> day = new ArrayList<>();
        List<Line> lines = new ArrayList<>();
        List<Right> rights = new ArrayList<>();
        List<Piece> pieces = new ArrayList<>();
        int gone;

        Court twin() {
            Court c = new Court();
            c.day = day;
            c.lines = lines;
            c.rights = rights;
            c.gone = gone;
            for (Piece p : pieces) {
                c.pieces.add(p.twin());
            }
            return c;
        }

        boolean sunny(int line, int quarter, int roof) {
            return lines.get(line).floor >= day.get(quarter) / 10 + roof;
        }

        Integer below(int line) {
            Line l = lines.get(line);
            for (int floor = l.floor - 1; floor >= 0; floor--) {
                for (int i = 0; i < lines.size(); i++) {
                    if (lines.get(i).floor == floor && lines.get(i).column == l.column) {
                        return i;
                    }
                }
            }
            return null;
        }

        int holders(int line) {
            int bits = 0;
            for (Right r : rights) {
                if (r.line == line && r.from <= gone % 24 && gone % 24 <= r.to) {
                    bits |= 1 << r.who;
                }
            }
            return bits;
        }

        int hang(int piece, int line) throws Refused {
            Piece p = pieces.get(piece);
            int holders = holders(line);
            if (p.line != null || holders != 0 && (holders & 1 << p.who) == 0) {
                throw new Refused(STATE);
            }
            int sum = p.yards;
            int sheets = p.sort.equals("sheet") ? 1 : 0;
            int there = 1;
            for (Piece other : pieces) {
                if (other.line != null && other.line == line) {
                    sum += other.yards;
                    sheets += other.sort.equals("sheet") ? 1 : 0;
                    there++;
                }
            }
            int wide = lines.get(line).wide;
            if (sum > wide || sheets > 0 && there > 1) {
                throw new Refused(FULL);
            }
            p.line = line;
            return sheets > 0 ? 0 : wide - sum;
        }

        void quarter() {
            int today = day.get(gone % 24);
            List<Integer> dried = new ArrayList<>();
            for (Piece p : pieces) {
                if (p.line != null) {
                    int by = today % 10;
                    if (sunny(p.line, gone % 24, 0)) {
                        by += 2;
                    }
                    if (p.sort.equals("wool") || p.sort.equals("sock")) {
                        by -= 2;
                    }
                    p.wet = Math.max(0, p.wet - Math.max(0, by));
                }
                dried.add(p.wet);
            }
            for (int i = 0; i < pieces.size(); i++) {
                Piece above = pieces.get(i);
                if (above.line == null || dried.get(i) <= 30) {
                    continue;
                }
                Integer under = below(above.line);
                for (Piece p : pieces) {
                    if (p.line != null && p.line.equals(under)) {
                        p.wet = Math.min(99, p.wet + 3);
                        if (above.sort.equals("red") && !p.sort.equals("red") && !p.sort.equals("black")) {
                            p.stained = true;
                        }
                    }
                }
            }
            gone++;
        }
    }

    private final int[][] rows = new int[8][];
    private final int[] lanes = new int[8];
    private String tape = "";
    private Court court;
    private final Court[] images = new Court[2];
    private int fault;
    private int status;
    private List<Integer> trace = new ArrayList<>();

    /** The answer of a call told by its name. */
    int call(String name, long... a) {
        int[] b = new int[a.length];
        for (int i = 0; i < a.length; i++) {
            b[i] = (int) a[i];
        }
        try {
            int answer = name.equals("feed") ? feed(a[0], b[1]) : answer(name, b);
            if (List.of("row", "set", "copy", "drop", "lay", "rings", "as").contains(name)) {
                status = 0;
            }
            return answer;
        } catch (Refused r) {
            if (r.answer <= -1000011 && r.answer >= -1000015) {
                status = -1000010 - r.answer;
            }
            return r.answer;
        }
    }

    private int answer(String name, int[] b) throws Refused {
        switch (name) {
            case "row": return row(b[0], b[1], b[2]);
            case "set": return set(b[0], b[1], b[2]);
            case "copy": return copy(b[0], b[1], b[2], b[3], b[4]);
            case "drop": return drop(b[0]);
            case "court": return read();
            case "fault": return fault;
            case "hang": return hang(b[0], b[1]);
            case "take": return take(b[0]);
            case "quarters": return quarters(b[0]);
            case "lay": return lay(b[0], b[1]);
            case "piece": return piece(b[0], b[1]);
            case "line": return line(b[0], b[1]);
            case "dry": return dry();
            case "plan": return plan(b[0], b[1]);
            case "whose": return whose(b[0], b[1]);
            case "sun": return sun(b[0], b[1]);
            case "rings": return rings(b[0], b[1], b[2]);
            case "rain": return rain(b[0], b[1]);
            case "image": return image(b[0]);
            case "restore": return restore(b[0]);
            case "kind": return SORTS.indexOf(pieceOf(b[0]).sort);
            case "as": return as(b[0], b[1]);
            case "ask": return ask(b[0], b[1]);
            case "trace": return b[0] < 0 || b[0] >= trace.size() ? NONE : trace.get(b[0]);
            case "count": return count(b[0]);
            default: return status;
        }
    }

    private static void need(boolean holds, int answer) throws Refused {
        if (!holds) {
            throw new Refused(answer);
        }
    }

    private static void within(int v, int least, int most) throws Refused {
        need(v >= least && v <= most, BAD);
    }

    private Piece pieceOf(int piece) throws Refused {
        need(court != null && piece >= 0 && piece < court.pieces.size(), BAD);
        return court.pieces.get(piece);
    }

    private Line lineOf(int line) throws Refused {
        need(court != null && line >= 0 && line < court.lines.size(), BAD);
        return court.lines.get(line);
    }

    private int[] rowOf(int row) throws Refused {
        need(rows[row] != null, -1000011);
        return rows[row];
    }

    private static void places(int[] row, long from, long n) throws Refused {
        need(from >= 0 && n >= 0 && from + n <= row.length, -1000012);
    }

    private int row(int row, int lane, int n) throws Refused {
        within(row, 0, 7);
        within(lane, 0, 2);
        need(n <= 40, BAD);
        need(n >= 0, -1000014);
        rows[row] = new int[n];
        lanes[row] = lane;
        return n;
    }

    private int set(int row, int i, int v) throws Refused {
        within(row, 0, 7);
        int[] items = rowOf(row);
        places(items, i, 1);
        items[i] = lanes[row] == 0 ? (byte) v : lanes[row] == 1 ? (short) v : v;
        return items[i];
    }

    private int copy(int a, int i, int b, int j, int n) throws Refused {
        within(a, 0, 7);
        within(b, 0, 7);
        int[] from = rowOf(a).clone();
        int[] to = rowOf(b);
        need(lanes[a] == lanes[b], -1000015);
        places(from, i, n);
        places(to, j, n);
        for (int k = 0; k < n; k++) {
            to[j + k] = from[i + k];
        }
        return n;
    }

    private int drop(int row) throws Refused {
        within(row, 0, 7);
        int had = rowOf(row).length;
        rows[row] = null;
        return had;
    }

    private int feed(long w, int n) throws Refused {
        within(n, 1, 8);
        need(tape.length() + n <= 500, FULL);
        for (int i = n - 1; i >= 0; i--) {
            tape += (char) (w >>> 8 * i & 255);
        }
        return tape.length();
    }

    private int read() {
        String text = tape;
        tape = "";
        try {
            court = parsed(tokensOf(text));
            return court.lines.size();
        } catch (Fault f) {
            fault = f.number;
            return -1000100 - f.place;
        }
    }

    private static List<Token> tokensOf(String text) {
        List<Token> tokens = new ArrayList<>();
        Matcher m = Pattern.compile("[a-z]+|[0-9]+|[^ \n]", Pattern.DOTALL).matcher(text);
        while (m.find()) {
            tokens.add(new Token(m.group(), m.start()));
        }
        tokens.add(new Token("", text.length()));
        return tokens;
    }

    private static Court parsed(List<Token> tokens) throws Fault {
        Court c = new Court();
        expect(tokens, "day");
        for (int q = 0; q < 24; q++) {
            c.day.add(number(tokens, 0, 99));
        }
        expect(tokens, ";");
        do {
            room(tokens, "line", c.lines.size() < 8);
            int floor = number(tokens, 0, 9);
            Token second = tokens.get(0);
            int column = number(tokens, 0, 3);
            for (Line l : c.lines) {
                if (l.floor == floor && l.column == column) {
                    throw new Fault(2, second.place);
                }
            }
            int wide = number(tokens, 1, 9);
            expect(tokens, ";");
            c.lines.add(new Line(floor, column, wide));
        } while (tokens.get(0).text.equals("line"));
        while (tokens.get(0).text.equals("right")) {
            room(tokens, "right", c.rights.size() < 8);
            int line = number(tokens, 0, c.lines.size() - 1);
            int from = number(tokens, 0, 23);
            int to = number(tokens, from, 23);
            int who = number(tokens, 0, 5);
            expect(tokens, ";");
            c.rights.add(new Right(line, from, to, who));
        }
        while (tokens.get(0).text.equals("piece")) {
            room(tokens, "piece", c.pieces.size() < 10);
            Piece p = new Piece();
            Token sort = tokens.remove(0);
            if (sort.text.isEmpty() || !SORTS.contains(sort.text)) {
                throw new Fault(1, sort.place);
            }
            p.sort = sort.text;
            p.who = number(tokens, 0, 5);
            p.wet = number(tokens, 0, 99);
            p.yards = number(tokens, 1, 9);
            expect(tokens, ";");
            c.pieces.add(p);
        }
        expect(tokens, "");
        return c;
    }

    private static void expect(List<Token> tokens, String text) throws Fault {
        room(tokens, text, true);
    }

    private static void room(List<Token> tokens, String text, boolean hasRoom) throws Fault {
        Token t = tokens.remove(0);
        if (!t.text.equals(text)) {
            throw new Fault(1, t.place);
        }
        if (!hasRoom) {
            throw new Fault(3, t.place);
        }
    }

    private static int number(List<Token> tokens, int least, int most) throws Fault {
        Token t = tokens.remove(0);
        if (!t.text.matches("[0-9]{1,3}")) {
            throw new Fault(1, t.place);
        }
        int v = Integer.parseInt(t.text);
        if (v < least || v > most) {
            throw new Fault(2, t.place);
        }
        return v;
    }

    private int hang(int piece, int line) throws Refused {
        pieceOf(piece);
        lineOf(line);
        return court.hang(piece, line);
    }

    private int take(int piece) throws Refused {
        Piece p = pieceOf(piece);
        need(p.line != null, STATE);
        int line = p.line;
        p.line = null;
        return line;
    }

    private int quarters(int n) throws Refused {
        need(court != null, STATE);
        within(n, 1, 96);
        for (int i = 0; i < n; i++) {
            court.quarter();
        }
        return court.gone;
    }

    private int lay(int row, int i) throws Refused {
        need(court != null, STATE);
        within(row, 0, 7);
        int[] items = rowOf(row);
        places(items, i, court.pieces.size());
        for (int p = 0; p < court.pieces.size(); p++) {
            within(items[i + p], -1, court.lines.size() - 1);
        }
        Court laid = court.twin();
        for (Piece p : laid.pieces) {
            p.line = null;
        }
        int hung = 0;
        for (int p = 0; p < laid.pieces.size(); p++) {
            if (items[i + p] >= 0) {
                laid.hang(p, items[i + p]);
                hung++;
            }
        }
        court = laid;
        return hung;
    }

    private int piece(int piece, int what) throws Refused {
        Piece p = pieceOf(piece);
        within(what, 0, 4);
        int line = p.line == null ? NONE : p.line;
        return new int[] {p.wet, line, p.stained ? 1 : 0, p.who, p.yards}[what];
    }

    private int line(int line, int what) throws Refused {
        Line l = lineOf(line);
        within(what, 0, 5);
        int bits = 0;
        for (int p = 0; p < court.pieces.size(); p++) {
            Integer on = court.pieces.get(p).line;
            bits |= on != null && on == line ? 1 << p : 0;
        }
        Integer below = court.below(line);
        return new int[] {l.floor, l.column, l.wide, bits, court.holders(line), below == null ? NONE : below}[what];
    }

    private int dry() throws Refused {
        need(court != null, STATE);
        Court c = court.twin();
        for (int t = 0; t <= 96; t++) {
            if (c.pieces.stream().allMatch(p -> p.line == null || p.wet == 0)) {
                return t;
            }
            c.quarter();
        }
        return NONE;
    }

    private int plan(int n, int k) throws Refused {
        need(court != null, STATE);
        within(n, 1, 4);
        need(n <= court.pieces.size(), BAD);
        within(k, -1, n - 1);
        int best = NONE;
        int[] bestLines = new int[n];
        int many = court.lines.size();
        for (int code = 0; code < Math.pow(many, n); code++) {
            int[] lines = new int[n];
            int rest = code;
            for (int p = n - 1; p >= 0; p--) {
                lines[p] = rest % many;
                rest /= many;
            }
            int time = timeOf(lines);
            if (time != NONE && (best == NONE || time < best)) {
                best = time;
                bestLines = lines;
            }
        }
        return best == NONE || k < 0 ? best : bestLines[k];
    }

    private int timeOf(int[] lines) {
        Court c = court.twin();
        try {
            for (int p = 0; p < lines.length; p++) {
                c.hang(p, lines[p]);
            }
        } catch (Refused r) {
            return NONE;
        }
        for (int t = 0; t <= 48; t++) {
            boolean dry = true;
            for (int p = 0; p < lines.length; p++) {
                dry &= c.pieces.get(p).wet == 0;
                if (c.pieces.get(p).stained && !court.pieces.get(p).stained) {
                    return NONE;
                }
            }
            if (dry) {
                return t;
            }
            c.quarter();
        }
        return NONE;
    }

    private int whose(int floor, int column) throws Refused {
        need(court != null, STATE);
        within(floor, 0, 9);
        within(column, 0, 3);
        int bits = 0;
        for (int p = 0; p < court.pieces.size(); p++) {
            Piece piece = court.pieces.get(p);
            Line l = piece.line == null ? null : court.lines.get(piece.line);
            if (l != null && l.column == column && l.floor > floor && piece.yards <= 3) {
                bits |= 1 << p;
            }
        }
        return bits;
    }

    private int sun(int line, int h) throws Refused {
        lineOf(line);
        within(h, 0, 9);
        int n = 0;
        for (int q = 0; q < 24; q++) {
            n += court.sunny(line, q, h) ? 1 : 0;
        }
        return n;
    }

    private int rings(int row, int n, int who) throws Refused {
        need(court != null, STATE);
        within(row, 0, 7);
        within(n, 2, 6);
        within(who, 0, n - 1);
        int[] has = rowOf(row);
        places(has, 0, n);
        List<Integer> left = new ArrayList<>();
        for (int k = 0; k < n; k++) {
            within(has[k], 0, court.lines.size() - 1);
            for (int j : left) {
                need(has[j] != has[k], BAD);
            }
            left.add(k);
        }
        int[] gets = new int[n];
        while (!left.isEmpty()) {
            List<Integer> ring = new ArrayList<>();
            int at = left.get(0);
            for (int step = 0; step < n; step++) {
                at = pointed(at, left, has);
            }
            for (int from = at; !ring.contains(from); from = pointed(from, left, has)) {
                ring.add(from);
                gets[from] = has[pointed(from, left, has)];
            }
            left.removeAll(ring);
        }
        return gets[who];
    }

    private int pointed(int k, List<Integer> left, int[] has) {
        List<Integer> liked = new ArrayList<>(left);
        liked.sort((a, b) -> {
            int more = sunFor(k, has[b]) - sunFor(k, has[a]);
            return more != 0 ? more : has[a] - has[b];
        });
        return liked.get(0);
    }

    private int sunFor(int k, int line) {
        int n = 0;
        for (int q = 4 * k; q <= 4 * k + 3; q++) {
            n += court.sunny(line, q, 0) ? 1 : 0;
        }
        return n;
    }

    private int rain(int p, int what) throws Refused {
        need(court != null, STATE);
        within(p, 0, 100);
        within(what, 0, 1);
        List<Integer> hung = new ArrayList<>();
        for (int i = 0; i < court.pieces.size(); i++) {
            if (court.pieces.get(i).line != null) {
                hung.add(i);
            }
        }
        hung.sort((a, b) -> court.pieces.get(b).yards - court.pieces.get(a).yards);
        if (what == 1) {
            return hung.isEmpty() ? NONE : hung.get(0);
        }
        long d = 1000000;
        long sum = 0;
        for (int i : hung) {
            sum += court.pieces.get(i).yards * (1000000 - d);
            d = d * (100 - p) / 100;
        }
        return (int) sum;
    }

    private int image(int k) throws Refused {
        within(k, 0, 1);
        need(court != null, STATE);
        images[k] = court.twin();
        return 1;
    }

    private int restore(int k) throws Refused {
        within(k, 0, 1);
        need(images[k] != null, STATE);
        court = images[k].twin();
        return 1;
    }

    private int as(int piece, int kind) throws Refused {
        int at = SORTS.indexOf(pieceOf(piece).sort);
        within(kind, 0, 5);
        int[] above = {-1, 0, 1, 0, 0, 3};
        while (at != -1 && at != kind) {
            at = above[at];
        }
        need(at == kind, -1000013);
        return piece;
    }

    private int ask(int piece, int what) throws Refused {
        Piece p = pieceOf(piece);
        within(what, 0, 1);
        trace = new ArrayList<>();
        int size = p.wet;
        int mark = piece;
        switch (p.sort) {
            case "red":
                mark += p.yards;
                size += mark;
                trace.addAll(what == 0 ? List.of(11, 10, 21, 20) : List.of(21, 20));
                break;
            case "black":
                mark += p.yards + 1000;
                size = -(size + mark);
                trace.addAll(what == 0 ? List.of(12, 11, 10, 24, 21, 20) : List.of(24, 21, 20));
                break;
            case "wool":
                size -= p.yards;
                trace.addAll(what == 0 ? List.of(13, 10) : List.of(20));
                break;
            case "sheet":
                mark -= size;
                trace.addAll(what == 0 ? List.of(10) : List.of(22, 20, 10));
                break;
            default:
                size = 2 * (size - p.yards);
                mark += 10 * size;
                trace.addAll(what == 0 ? List.of(14, 13, 10) : List.of(23, 20, 14, 13, 10));
        }
        return what == 0 ? size : mark;
    }

    private int count(int what) throws Refused {
        within(what, 0, 7);
        Court c = court == null ? new Court() : court;
        return new int[] {
            (int) Arrays.stream(rows).filter(r -> r != null).count(), c.lines.size(), c.rights.size(), c.pieces.size(),
            (int) c.pieces.stream().filter(p -> p.line != null).count(),
            (int) c.pieces.stream().filter(p -> p.stained).count(), c.gone, tape.length(),
        }[what];
    }
}
