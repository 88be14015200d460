import java.util.Arrays;

/**
 * Washing over a court: lines on floors and columns, pieces of wash that hang, dry and drip,
 * and what can be foretold of them.
 */
public final class CourtWash {
    public static final int NONE = -1000000, BAD = -1000001, STATE = -1000002, FULL = -1000003;

    private static final int FINDINGS = -1000010;
    private static final int NULL = 1, PLACE = 2, KIND = 3, SIZE = 4, STORE = 5;
    private static final int FAULT_PLACES = -1000100;

    private static final int QUARTERS = 24;
    private static final int MOST_QUARTERS = 96;
    private static final int MOST_PLANNED = 4;
    private static final int NO_PLAN = 48 + 1;
    private static final int MOST_PEOPLE = 6;
    private static final int FALLEN_YARDS = 3;
    private static final int MILLION = 1000000;

    private static final int RED = 1, BLACK = 2, WOOL = 3, SHEET = 4, SOCK = 5;

    private final Rows rows = new Rows();
    private final Reader reader = new Reader();
    private final Wash wash;
    private final Wash firstImage;
    private final Wash secondImage;
    private final Wash draft;
    private final Wash trial;
    private final Trace trace = new Trace();
    private final int[] triedLines = new int[MOST_PLANNED];
    private final int[] bestLines = new int[MOST_PLANNED];
    private final int[] timesAlone = new int[MOST_PLANNED * Court.MOST_LINES];
    private int leastTime;
    private int bestTime;
    private int latestFault;
    private int latestFinding;

    public CourtWash() {
        Court none = new Court();
        wash = new Wash(none);
        firstImage = new Wash(none);
        secondImage = new Wash(none);
        draft = new Wash(none);
        trial = new Wash(none);
    }

    // ---- rows

    public int row(int row, int lane, int n) {
        if (!rows.isRow(row) || !isIn(lane, 0, Rows.INTS) || n > Rows.MOST_ITEMS) {
            return BAD;
        }
        if (n < 0) {
            return found(SIZE);
        }
        rows.make(row, lane, n);
        return unfound(n);
    }

    public int set(int row, int i, int v) {
        if (!rows.isRow(row)) {
            return BAD;
        }
        if (rows.isMissing(row)) {
            return found(NULL);
        }
        if (!rows.hasItems(row, i, 1)) {
            return found(PLACE);
        }
        return unfound(rows.put(row, i, v));
    }

    public int copy(int a, int i, int b, int j, int n) {
        if (!rows.isRow(a) || !rows.isRow(b)) {
            return BAD;
        }
        if (rows.isMissing(a) || rows.isMissing(b)) {
            return found(NULL);
        }
        if (!rows.areAlike(a, b)) {
            return found(STORE);
        }
        if (!rows.hasItems(a, i, n) || !rows.hasItems(b, j, n)) {
            return found(PLACE);
        }
        rows.move(a, i, b, j, n);
        return unfound(n);
    }

    public int drop(int row) {
        if (!rows.isRow(row)) {
            return BAD;
        }
        if (rows.isMissing(row)) {
            return found(NULL);
        }
        return unfound(rows.lose(row));
    }

    // ---- courts, hanging

    public int feed(long w, int n) {
        if (!isIn(n, 1, Reader.MOST_FED)) {
            return BAD;
        }
        if (!reader.hasRoom(n)) {
            return FULL;
        }
        return reader.append(w, n);
    }

    public int court() {
        Court read = reader.readCourt();
        if (reader.faultNumber != 0) {
            latestFault = reader.faultNumber;
            return FAULT_PLACES - reader.faultPlace;
        }
        wash.begin(read);
        return read.lineCount;
    }

    public int fault() {
        return latestFault;
    }

    public int hang(int piece, int line) {
        if (!isPiece(piece) || !isLine(line)) {
            return BAD;
        }
        int refusal = wash.refusal(piece, line);
        if (refusal != 0) {
            return refusal;
        }
        wash.putUp(piece, line);
        return wash.yardsLeft(piece, line);
    }

    public int take(int piece) {
        if (!isPiece(piece)) {
            return BAD;
        }
        if (!wash.isHung(piece)) {
            return STATE;
        }
        return wash.takeDown(piece);
    }

    public int quarters(int n) {
        if (noCourt()) {
            return STATE;
        }
        if (!isIn(n, 1, MOST_QUARTERS)) {
            return BAD;
        }
        for (int i = 0; i < n; i++) {
            wash.passQuarter();
        }
        return wash.gone;
    }

    public int lay(int row, int i) {
        if (noCourt()) {
            return STATE;
        }
        if (!rows.isRow(row)) {
            return BAD;
        }
        if (rows.isMissing(row)) {
            return found(NULL);
        }
        int pieces = wash.court.pieceCount;
        if (!rows.hasItems(row, i, pieces)) {
            return found(PLACE);
        }
        if (!rows.areIn(row, i, pieces, Wash.DOWN, wash.court.lineCount - 1)) {
            return BAD;
        }
        int refusal = draftLaid(row, i);
        if (refusal != 0) {
            return refusal;
        }
        wash.become(draft);
        return unfound(Integer.bitCount(wash.hungBits()));
    }

    public int piece(int piece, int what) {
        if (!isPiece(piece)) {
            return BAD;
        }
        switch (what) {
            case 0:
                return wash.wet[piece];
            case 1:
                return wash.isHung(piece) ? wash.where[piece] : NONE;
            case 2:
                return wash.stained[piece] ? 1 : 0;
            case 3:
                return wash.court.owners[piece];
            case 4:
                return wash.court.yards[piece];
            default:
                return BAD;
        }
    }

    public int line(int line, int what) {
        if (!isLine(line)) {
            return BAD;
        }
        switch (what) {
            case 0:
                return wash.court.floors[line];
            case 1:
                return wash.court.columns[line];
            case 2:
                return wash.court.wides[line];
            case 3:
                return wash.bitsOn(line);
            case 4:
                return wash.court.holders(line, wash.quarterNow());
            case 5:
                return wash.court.below[line] < 0 ? NONE : wash.court.below[line];
            default:
                return BAD;
        }
    }

    // ---- foretold

    public int dry() {
        if (noCourt()) {
            return STATE;
        }
        trial.become(wash);
        for (int time = 0; time <= MOST_QUARTERS; time++) {
            if (trial.allHungAreDry()) {
                return time;
            }
            trial.passQuarter();
        }
        return NONE;
    }

    public int plan(int n, int k) {
        if (noCourt()) {
            return STATE;
        }
        if (!isIn(n, 1, MOST_PLANNED) || n > wash.court.pieceCount || !isIn(k, -1, n - 1)) {
            return BAD;
        }
        findPlan(n);
        if (bestTime == NO_PLAN) {
            return NONE;
        }
        return k < 0 ? bestTime : bestLines[k];
    }

    public int whose(int floor, int column) {
        if (noCourt()) {
            return STATE;
        }
        if (!isIn(floor, 0, Court.TOP_FLOOR) || !isIn(column, 0, Court.LAST_COLUMN)) {
            return BAD;
        }
        int bits = 0;
        for (int p = 0; p < wash.court.pieceCount; p++) {
            if (wash.court.yards[p] <= FALLEN_YARDS && hangsAbove(p, floor, column)) {
                bits |= 1 << p;
            }
        }
        return bits;
    }

    public int sun(int line, int h) {
        if (!isLine(line) || !isIn(h, 0, Court.TOP_FLOOR)) {
            return BAD;
        }
        return wash.court.sunnyQuarters(line, 0, QUARTERS - 1, h);
    }

    public int rings(int row, int n, int who) {
        if (noCourt()) {
            return STATE;
        }
        if (!rows.isRow(row) || !isIn(n, 2, MOST_PEOPLE) || !isIn(who, 0, n - 1)) {
            return BAD;
        }
        if (rows.isMissing(row)) {
            return found(NULL);
        }
        if (!rows.hasItems(row, 0, n)) {
            return found(PLACE);
        }
        if (!rows.areIn(row, 0, n, 0, wash.court.lineCount - 1) || !rows.areUnlike(row, n)) {
            return BAD;
        }
        int[] gets = linesByRings(rows.firstItems(row, n));
        return unfound(gets[who]);
    }

    public int rain(int p, int what) {
        if (noCourt()) {
            return STATE;
        }
        if (!isIn(p, 0, 100) || !isIn(what, 0, 1)) {
            return BAD;
        }
        if (what == 0) {
            return yardsWet(p);
        }
        int next = takenNext(wash.hungBits());
        return next < 0 ? NONE : next;
    }

    public int image(int k) {
        if (!isIn(k, 0, 1)) {
            return BAD;
        }
        if (noCourt()) {
            return STATE;
        }
        imageOf(k).become(wash);
        return 1;
    }

    public int restore(int k) {
        if (!isIn(k, 0, 1)) {
            return BAD;
        }
        if (!imageOf(k).court.isTold()) {
            return STATE;
        }
        wash.become(imageOf(k));
        return 1;
    }

    // ---- asked

    public int kind(int piece) {
        return isPiece(piece) ? wash.court.kinds[piece] : BAD;
    }

    public int as(int piece, int kind) {
        if (!isPiece(piece) || !isIn(kind, 0, SOCK)) {
            return BAD;
        }
        if (!isOfKind(pieceAsked(piece), kind)) {
            return found(KIND);
        }
        return unfound(piece);
    }

    public int ask(int piece, int what) {
        if (!isPiece(piece) || !isIn(what, 0, 1)) {
            return BAD;
        }
        trace.empty();
        Piece asked = pieceAsked(piece);
        return what == 0 ? asked.size() : asked.mark();
    }

    public int trace(int i) {
        return isIn(i, 0, trace.length - 1) ? trace.numbers[i] : NONE;
    }

    public int count(int what) {
        switch (what) {
            case 0:
                return rows.howMany();
            case 1:
                return wash.court.lineCount;
            case 2:
                return wash.court.rightCount;
            case 3:
                return wash.court.pieceCount;
            case 4:
                return Integer.bitCount(wash.hungBits());
            case 5:
                return wash.howManyStained();
            case 6:
                return wash.gone;
            case 7:
                return reader.length;
            default:
                return BAD;
        }
    }

    public int status() {
        return latestFinding;
    }

    // ---- what the calls share

    private static boolean isIn(int v, int least, int most) {
        return v >= least && v <= most;
    }

    private int found(int finding) {
        latestFinding = finding;
        return FINDINGS - finding;
    }

    private int unfound(int answer) {
        latestFinding = 0;
        return answer;
    }

    private boolean noCourt() {
        return !wash.court.isTold();
    }

    private boolean isPiece(int piece) {
        return isIn(piece, 0, wash.court.pieceCount - 1);
    }

    private boolean isLine(int line) {
        return isIn(line, 0, wash.court.lineCount - 1);
    }

    private Wash imageOf(int k) {
        return k == 0 ? firstImage : secondImage;
    }

    /** Hangs the draft by a ROW whose ITEMS are looked at already: the first refusal, 0 if none. */
    private int draftLaid(int row, int from) {
        draft.become(wash);
        draft.takeAllDown();
        for (int p = 0; p < draft.court.pieceCount; p++) {
            int line = rows.item(row, from + p);
            if (line == Wash.DOWN) {
                continue;
            }
            int refusal = draft.refusal(p, line);
            if (refusal != 0) {
                return refusal;
            }
            draft.putUp(p, line);
        }
        return 0;
    }

    private boolean hangsAbove(int p, int floor, int column) {
        if (!wash.isHung(p)) {
            return false;
        }
        int line = wash.where[p];
        return wash.court.columns[line] == column && wash.court.floors[line] > floor;
    }

    // ---- plans

    /**
     * Leaves the soonest time in bestTime (NO_PLAN: there is none), its LINES in bestLines. Another
     * PIECE can only drip more, so what some need by themselves is never more than what all need.
     */
    private void findPlan(int n) {
        draft.become(wash);
        bestTime = NO_PLAN;
        leastTime = 0;
        for (int p = 0; p < n; p++) {
            leastTime = Math.max(leastTime, leastTimeAlone(p));
        }
        planPiece(0, n);
    }

    /** When a PIECE is DRY without the others that are to be planned, on the best LINE for it. */
    private int leastTimeAlone(int p) {
        int least = NO_PLAN;
        for (int line = 0; line < draft.court.lineCount; line++) {
            int time = NO_PLAN;
            if (draft.refusal(p, line) == 0) {
                draft.putUp(p, line);
                time = timeUntilDry(p, p, NO_PLAN);
                draft.takeDown(p);
            }
            timesAlone[p * Court.MOST_LINES + line] = time;
            least = Math.min(least, time);
        }
        return least;
    }

    /** Tries all LINES for PIECE p and those behind it, but leaves at once what cannot be better than the best. */
    private void planPiece(int p, int n) {
        if (p >= n || p >= MOST_PLANNED) {
            return;
        }
        for (int line = 0; line < draft.court.lineCount && bestTime > leastTime; line++) {
            if (timesAlone[p * Court.MOST_LINES + line] >= bestTime || draft.refusal(p, line) != 0) {
                continue;
            }
            draft.putUp(p, line);
            triedLines[p] = line;
            int time = timeUntilDry(0, p, bestTime);
            if (time < bestTime) {
                keepOrGoOn(p, n, time);
            }
            draft.takeDown(p);
        }
    }

    /** PIECES 0 to p need less than the best: behind the last one that is the best now. */
    private void keepOrGoOn(int p, int n, int time) {
        if (p < n - 1) {
            planPiece(p + 1, n);
        } else {
            bestTime = time;
            System.arraycopy(triedLines, 0, bestLines, 0, n);
        }
    }

    /** When PIECES of the draft, the first to the last told, are DRY without a new stain; limit, if not sooner. */
    private int timeUntilDry(int first, int last, int limit) {
        trial.become(draft);
        for (int time = 0; time < limit; time++) {
            if (trial.areDry(first, last)) {
                return time;
            }
            trial.passQuarter();
            if (trial.areStainedSince(draft, first, last)) {
                return limit;
            }
        }
        return limit;
    }

    // ---- rings

    /** Person k has the LINE has[k]: who gets which. */
    private int[] linesByRings(int[] has) {
        int n = has.length;
        int[] gets = new int[n];
        int[] pointsAt = new int[n];
        Arrays.fill(gets, -1);
        for (int round = 0; round < n; round++) {
            for (int k = 0; k < n; k++) {
                pointsAt[k] = gets[k] < 0 ? likedMost(k, has, gets) : k;
            }
            for (int k = 0; k < n; k++) {
                if (gets[k] < 0 && isInRing(k, pointsAt)) {
                    gets[k] = has[pointsAt[k]];
                }
            }
        }
        return gets;
    }

    /** At whom person k points; who has got a LINE is gone. */
    private int likedMost(int k, int[] has, int[] gets) {
        int most = k;
        for (int other = 0; other < has.length; other++) {
            if (gets[other] < 0 && likesMore(k, has[other], has[most])) {
                most = other;
            }
        }
        return most;
    }

    private boolean likesMore(int k, int line, int than) {
        int sun = wash.court.sunnyQuarters(line, 4 * k, 4 * k + 3, 0);
        int sunThan = wash.court.sunnyQuarters(than, 4 * k, 4 * k + 3, 0);
        return sun > sunThan || sun == sunThan && line < than;
    }

    private boolean isInRing(int k, int[] pointsAt) {
        int at = k;
        for (int step = 0; step < pointsAt.length; step++) {
            at = pointsAt[at];
            if (at == k) {
                return true;
            }
        }
        return false;
    }

    // ---- rain

    private int yardsWet(int p) {
        int left = wash.hungBits();
        int staysDry = MILLION;
        int sum = 0;
        for (int i = 0; i < wash.court.pieceCount; i++) {
            int next = takenNext(left);
            if (next < 0) {
                break;
            }
            sum += wash.court.yards[next] * (MILLION - staysDry);
            staysDry = staysDry * (100 - p) / 100;
            left &= ~(1 << next);
        }
        return sum;
    }

    /** Of PIECES told by bits the one to take in first; -1 if there is none. */
    private int takenNext(int bits) {
        int next = -1;
        int most = 0;
        for (int p = 0; p < wash.court.pieceCount; p++) {
            if ((bits >> p & 1) != 0 && wash.court.yards[p] > most) {
                next = p;
                most = wash.court.yards[p];
            }
        }
        return next;
    }

    // ---- kinds

    private Piece pieceAsked(int p) {
        int wet = wash.wet[p];
        int yards = wash.court.yards[p];
        switch (wash.court.kinds[p]) {
            case RED:
                return new Red(p, wet, yards, trace);
            case BLACK:
                return new Black(p, wet, yards, trace);
            case WOOL:
                return new Wool(p, wet, yards, trace);
            case SHEET:
                return new Sheet(p, wet, yards, trace);
            default:
                return new Sock(p, wet, yards, trace);
        }
    }

    private static boolean isOfKind(Piece piece, int kind) {
        switch (kind) {
            case RED:
                return piece instanceof Red;
            case BLACK:
                return piece instanceof Black;
            case WOOL:
                return piece instanceof Wool;
            case SHEET:
                return piece instanceof Sheet;
            case SOCK:
                return piece instanceof Sock;
            default:
                return true;
        }
    }

    /** ROWS in one store, so that making and dropping them makes no objects. */
    private static final class Rows {
        static final int ROWS = 8;
        static final int MOST_ITEMS = 40;
        static final int MISSING = -1, BYTES = 0, SHORTS = 1, INTS = 2;

        private final int[] lanes = new int[ROWS];
        private final int[] sizes = new int[ROWS];
        private final int[] items = new int[ROWS * MOST_ITEMS];

        Rows() {
            Arrays.fill(lanes, MISSING);
        }

        boolean isRow(int row) {
            return isIn(row, 0, ROWS - 1);
        }

        boolean isMissing(int row) {
            return lanes[row] == MISSING;
        }

        boolean areAlike(int a, int b) {
            return lanes[a] == lanes[b];
        }

        boolean hasItems(int row, int from, int n) {
            return from >= 0 && n >= 0 && from <= sizes[row] - n;
        }

        void make(int row, int lane, int n) {
            lanes[row] = lane;
            sizes[row] = n;
            Arrays.fill(items, row * MOST_ITEMS, row * MOST_ITEMS + n, 0);
        }

        int lose(int row) {
            int had = sizes[row];
            lanes[row] = MISSING;
            sizes[row] = 0;
            return had;
        }

        int item(int row, int i) {
            return items[row * MOST_ITEMS + i];
        }

        int put(int row, int i, int v) {
            int kept = cutToLane(lanes[row], v);
            items[row * MOST_ITEMS + i] = kept;
            return kept;
        }

        void move(int a, int i, int b, int j, int n) {
            System.arraycopy(items, a * MOST_ITEMS + i, items, b * MOST_ITEMS + j, n);
        }

        boolean areIn(int row, int from, int n, int least, int most) {
            for (int k = 0; k < n; k++) {
                if (!isIn(item(row, from + k), least, most)) {
                    return false;
                }
            }
            return true;
        }

        /** Whether the first n ITEMS are all unlike. */
        boolean areUnlike(int row, int n) {
            for (int k = 0; k < n; k++) {
                for (int earlier = 0; earlier < k; earlier++) {
                    if (item(row, k) == item(row, earlier)) {
                        return false;
                    }
                }
            }
            return true;
        }

        int[] firstItems(int row, int n) {
            return Arrays.copyOfRange(items, row * MOST_ITEMS, row * MOST_ITEMS + n);
        }

        int howMany() {
            int there = 0;
            for (int row = 0; row < ROWS; row++) {
                there += isMissing(row) ? 0 : 1;
            }
            return there;
        }

        private static int cutToLane(int lane, int v) {
            switch (lane) {
                case BYTES:
                    return (byte) v;
                case SHORTS:
                    return (short) v;
                default:
                    return v;
            }
        }
    }

    /** What a text tells of a court. It never changes once it is read, so IMAGES may share it. */
    private static final class Court {
        static final int MOST_LINES = 8;
        static final int MOST_RIGHTS = 8;
        static final int MOST_PIECES = 10;
        static final int TOP_FLOOR = 9;
        static final int LAST_COLUMN = 3;
        static final int SUN_DRIES = 2;
        static final int WOOL_KEEPS = 2;

        final int[] day = new int[QUARTERS];
        int lineCount;
        final int[] floors = new int[MOST_LINES];
        final int[] columns = new int[MOST_LINES];
        final int[] wides = new int[MOST_LINES];
        final int[] below = new int[MOST_LINES];
        int rightCount;
        final int[] rightLines = new int[MOST_RIGHTS];
        final int[] rightFroms = new int[MOST_RIGHTS];
        final int[] rightTos = new int[MOST_RIGHTS];
        final int[] rightOwners = new int[MOST_RIGHTS];
        int pieceCount;
        final int[] kinds = new int[MOST_PIECES];
        final int[] owners = new int[MOST_PIECES];
        final int[] firstWet = new int[MOST_PIECES];
        final int[] yards = new int[MOST_PIECES];

        /** No text makes a COURT without LINES: one without stands for none. */
        boolean isTold() {
            return lineCount > 0;
        }

        void addLine(int floor, int column, int wide) {
            if (lineCount < MOST_LINES) {
                floors[lineCount] = floor;
                columns[lineCount] = column;
                wides[lineCount] = wide;
                lineCount++;
            }
        }

        void addRight(int line, int from, int to, int owner) {
            if (rightCount < MOST_RIGHTS) {
                rightLines[rightCount] = line;
                rightFroms[rightCount] = from;
                rightTos[rightCount] = to;
                rightOwners[rightCount] = owner;
                rightCount++;
            }
        }

        void addPiece(int kind, int owner, int wet, int yardsOfIt) {
            if (pieceCount < MOST_PIECES) {
                kinds[pieceCount] = kind;
                owners[pieceCount] = owner;
                firstWet[pieceCount] = wet;
                yards[pieceCount] = yardsOfIt;
                pieceCount++;
            }
        }

        boolean hasLineAt(int floor, int column) {
            for (int l = 0; l < lineCount; l++) {
                if (floors[l] == floor && columns[l] == column) {
                    return true;
                }
            }
            return false;
        }

        void findLinesBelow() {
            for (int l = 0; l < lineCount; l++) {
                below[l] = nextBelow(l);
            }
        }

        private int nextBelow(int line) {
            int next = -1;
            for (int l = 0; l < lineCount; l++) {
                if (columns[l] == columns[line] && floors[l] < floors[line]
                        && (next < 0 || floors[l] > floors[next])) {
                    next = l;
                }
            }
            return next;
        }

        boolean hasSun(int line, int quarter, int roof) {
            return floors[line] >= day[quarter] / 10 + roof;
        }

        int sunnyQuarters(int line, int from, int to, int roof) {
            int sunny = 0;
            for (int q = from; q <= to && q < QUARTERS; q++) {
                sunny += hasSun(line, q, roof) ? 1 : 0;
            }
            return sunny;
        }

        /** By how much a PIECE on a LINE dries in a QUARTER. */
        int drying(int piece, int line, int quarter) {
            int wind = day[quarter] % 10;
            int by = hasSun(line, quarter, 0) ? wind + SUN_DRIES : wind;
            boolean isSlow = kinds[piece] == WOOL || kinds[piece] == SOCK;
            return isSlow ? Math.max(0, by - WOOL_KEEPS) : by;
        }

        boolean takesStains(int piece) {
            return kinds[piece] != RED && kinds[piece] != BLACK;
        }

        /** PEOPLE (bits) who have a RIGHT to a LINE in a QUARTER. */
        int holders(int line, int quarter) {
            int bits = 0;
            for (int r = 0; r < rightCount; r++) {
                if (rightLines[r] == line && isIn(quarter, rightFroms[r], rightTos[r])) {
                    bits |= 1 << rightOwners[r];
                }
            }
            return bits;
        }
    }

    /** A COURT as it is at one time: what hangs where, how wet, how stained. */
    private static final class Wash {
        static final int DOWN = -1;
        static final int DRIPS_ABOVE = 30;
        static final int DRIP = 3;
        static final int MOST_WET = 99;

        Court court;
        int gone;
        final int[] wet = new int[Court.MOST_PIECES];
        final int[] where = new int[Court.MOST_PIECES];
        final boolean[] stained = new boolean[Court.MOST_PIECES];
        private final int[] dripsOn = new int[Court.MOST_LINES];
        private final boolean[] redOn = new boolean[Court.MOST_LINES];

        Wash(Court court) {
            this.court = court;
        }

        void begin(Court told) {
            court = told;
            gone = 0;
            for (int p = 0; p < Court.MOST_PIECES; p++) {
                wet[p] = told.firstWet[p];
                where[p] = DOWN;
                stained[p] = false;
            }
        }

        void become(Wash other) {
            court = other.court;
            gone = other.gone;
            for (int p = 0; p < Court.MOST_PIECES; p++) {
                wet[p] = other.wet[p];
                where[p] = other.where[p];
                stained[p] = other.stained[p];
            }
        }

        int quarterNow() {
            return Math.floorMod(gone, QUARTERS);
        }

        boolean isHung(int piece) {
            return where[piece] != DOWN;
        }

        void putUp(int piece, int line) {
            where[piece] = line;
        }

        int takeDown(int piece) {
            int line = where[piece];
            where[piece] = DOWN;
            return line;
        }

        void takeAllDown() {
            for (int p = 0; p < court.pieceCount; p++) {
                takeDown(p);
            }
        }

        int bitsOn(int line) {
            int bits = 0;
            for (int p = 0; p < court.pieceCount; p++) {
                if (where[p] == line) {
                    bits |= 1 << p;
                }
            }
            return bits;
        }

        int hungBits() {
            int bits = 0;
            for (int p = 0; p < court.pieceCount; p++) {
                if (isHung(p)) {
                    bits |= 1 << p;
                }
            }
            return bits;
        }

        int howManyStained() {
            int many = 0;
            for (int p = 0; p < court.pieceCount; p++) {
                many += stained[p] ? 1 : 0;
            }
            return many;
        }

        /** Why a PIECE cannot be HUNG on a LINE: STATE, FULL; 0 if it can. */
        int refusal(int piece, int line) {
            if (isHung(piece) || isOfOthers(piece, line)) {
                return STATE;
            }
            return hasRoomFor(piece, line) ? 0 : FULL;
        }

        private boolean isOfOthers(int piece, int line) {
            int holders = court.holders(line, quarterNow());
            return holders != 0 && (holders >> court.owners[piece] & 1) == 0;
        }

        private boolean hasRoomFor(int piece, int line) {
            int used = court.yards[piece];
            for (int p = 0; p < court.pieceCount; p++) {
                if (where[p] != line) {
                    continue;
                }
                if (court.kinds[p] == SHEET || court.kinds[piece] == SHEET) {
                    return false;
                }
                used += court.yards[p];
            }
            return used <= court.wides[line];
        }

        /** YARDS left on a LINE where a PIECE hangs; beside a sheet nothing can. */
        int yardsLeft(int piece, int line) {
            if (court.kinds[piece] == SHEET) {
                return 0;
            }
            int left = court.wides[line];
            for (int p = 0; p < court.pieceCount; p++) {
                left -= where[p] == line ? court.yards[p] : 0;
            }
            return left;
        }

        void passQuarter() {
            int quarter = quarterNow();
            for (int p = 0; p < court.pieceCount; p++) {
                if (isHung(p)) {
                    wet[p] = Math.max(0, wet[p] - court.drying(p, where[p], quarter));
                }
            }
            gatherDrips();
            takeDrips();
            gone++;
        }

        /** All drips are gathered before one falls: what falls must not make another PIECE drip yet. */
        private void gatherDrips() {
            for (int l = 0; l < court.lineCount; l++) {
                dripsOn[l] = 0;
                redOn[l] = false;
            }
            for (int p = 0; p < court.pieceCount; p++) {
                int under = isHung(p) && wet[p] > DRIPS_ABOVE ? court.below[where[p]] : -1;
                if (under >= 0) {
                    dripsOn[under]++;
                    redOn[under] = redOn[under] || court.kinds[p] == RED;
                }
            }
        }

        private void takeDrips() {
            for (int p = 0; p < court.pieceCount; p++) {
                if (isHung(p)) {
                    wet[p] = Math.min(MOST_WET, wet[p] + DRIP * dripsOn[where[p]]);
                    stained[p] = stained[p] || redOn[where[p]] && court.takesStains(p);
                }
            }
        }

        boolean allHungAreDry() {
            for (int p = 0; p < court.pieceCount; p++) {
                if (isHung(p) && wet[p] > 0) {
                    return false;
                }
            }
            return true;
        }

        boolean areDry(int first, int last) {
            for (int p = first; p <= last; p++) {
                if (wet[p] > 0) {
                    return false;
                }
            }
            return true;
        }

        boolean areStainedSince(Wash earlier, int first, int last) {
            for (int p = first; p <= last; p++) {
                if (stained[p] && !earlier.stained[p]) {
                    return true;
                }
            }
            return false;
        }
    }

    /** The tape, and how a COURT is read from it, TOKEN by TOKEN; behind a FAULT nothing more is read. */
    private static final class Reader {
        static final int MOST_FED = 8;
        static final int MOST_BYTES = 500;
        static final int MOST_FIGURES = 3;
        static final int CANNOT_STAND = 1, NOT_AS_TOLD = 2, NO_ROOM = 3;
        static final int END = 0, NAME = 1, NUMBER = 2, SIGN = 3, NO_TOKEN = 4, BLANK = 5;

        private final byte[] tape = new byte[MOST_BYTES];
        int length;
        private int tokenSort;
        private int tokenFrom;
        private int tokenTo;
        int faultNumber;
        int faultPlace;

        boolean hasRoom(int n) {
            return n <= MOST_BYTES - length;
        }

        int append(long w, int n) {
            for (int i = n - 1; i >= 0 && length < MOST_BYTES; i--) {
                tape[length] = (byte) (w >> 8 * i);
                length++;
            }
            return length;
        }

        /** What is read counts only where faultNumber is 0 then. */
        Court readCourt() {
            Court court = new Court();
            faultNumber = 0;
            faultPlace = 0;
            tokenTo = 0;
            nextToken();
            readDay(court);
            readLines(court);
            readRights(court);
            readPieces(court);
            if (tokenSort != END) {
                failAt(tokenFrom, CANNOT_STAND);
            }
            court.findLinesBelow();
            length = 0;
            return court;
        }

        private void readDay(Court court) {
            readWord("day", true);
            for (int q = 0; q < QUARTERS; q++) {
                court.day[q] = readNumber(0, 99);
            }
            readSign();
        }

        private void readLines(Court court) {
            readLine(court);
            for (int i = 0; i < Court.MOST_LINES && isNext("line"); i++) {
                readLine(court);
            }
        }

        private void readLine(Court court) {
            readWord("line", court.lineCount < Court.MOST_LINES);
            int floor = readNumber(0, Court.TOP_FLOOR);
            int place = tokenFrom;
            int column = readNumber(0, Court.LAST_COLUMN);
            if (court.hasLineAt(floor, column)) {
                failAt(place, NOT_AS_TOLD);
            }
            int wide = readNumber(1, 9);
            readSign();
            if (faultNumber == 0) {
                court.addLine(floor, column, wide);
            }
        }

        private void readRights(Court court) {
            for (int i = 0; i <= Court.MOST_RIGHTS && isNext("right"); i++) {
                readRight(court);
            }
        }

        private void readRight(Court court) {
            readWord("right", court.rightCount < Court.MOST_RIGHTS);
            int line = readNumber(0, court.lineCount - 1);
            int from = readNumber(0, QUARTERS - 1);
            int to = readNumber(from, QUARTERS - 1);
            int owner = readNumber(0, MOST_PEOPLE - 1);
            readSign();
            if (faultNumber == 0) {
                court.addRight(line, from, to, owner);
            }
        }

        private void readPieces(Court court) {
            for (int i = 0; i <= Court.MOST_PIECES && isNext("piece"); i++) {
                readPiece(court);
            }
        }

        private void readPiece(Court court) {
            readWord("piece", court.pieceCount < Court.MOST_PIECES);
            int kind = readKind();
            int owner = readNumber(0, MOST_PEOPLE - 1);
            int wet = readNumber(0, Wash.MOST_WET);
            int yards = readNumber(1, 9);
            readSign();
            if (faultNumber == 0) {
                court.addPiece(kind, owner, wet, yards);
            }
        }

        private int readKind() {
            for (int kind = RED; kind <= SOCK; kind++) {
                if (isNext(sortOf(kind))) {
                    nextToken();
                    return kind;
                }
            }
            failAt(tokenFrom, CANNOT_STAND);
            return 0;
        }

        private static String sortOf(int kind) {
            switch (kind) {
                case RED:
                    return "red";
                case BLACK:
                    return "black";
                case WOOL:
                    return "wool";
                case SHEET:
                    return "sheet";
                default:
                    return "sock";
            }
        }

        private void readWord(String word, boolean hasRoom) {
            if (!isNext(word)) {
                failAt(tokenFrom, CANNOT_STAND);
            } else if (!hasRoom) {
                failAt(tokenFrom, NO_ROOM);
            }
            nextToken();
        }

        private void readSign() {
            if (tokenSort != SIGN) {
                failAt(tokenFrom, CANNOT_STAND);
            }
            nextToken();
        }

        private int readNumber(int least, int most) {
            int number = tokenSort == NUMBER ? numberOfToken() : 0;
            if (tokenSort != NUMBER) {
                failAt(tokenFrom, CANNOT_STAND);
            } else if (!isIn(number, least, most)) {
                failAt(tokenFrom, NOT_AS_TOLD);
            }
            nextToken();
            return number;
        }

        private int numberOfToken() {
            int number = 0;
            for (int i = tokenFrom; i < tokenTo; i++) {
                number = number * 10 + tape[i] - '0';
            }
            return number;
        }

        /** Only the first FAULT counts. */
        private void failAt(int place, int number) {
            if (faultNumber == 0) {
                faultNumber = number;
                faultPlace = place;
            }
        }

        private boolean isNext(String word) {
            if (faultNumber != 0 || tokenSort != NAME || tokenTo - tokenFrom != word.length()) {
                return false;
            }
            for (int i = 0; i < word.length(); i++) {
                if (tape[tokenFrom + i] != word.charAt(i)) {
                    return false;
                }
            }
            return true;
        }

        private void nextToken() {
            if (faultNumber != 0) {
                return;
            }
            int at = tokenTo;
            while (at < length && sortAt(at) == BLANK) {
                at++;
            }
            tokenFrom = at;
            tokenSort = at < length ? sortAt(at) : END;
            tokenTo = Math.min(at + 1, length);
            if (tokenSort == NAME || tokenSort == NUMBER) {
                while (tokenTo < length && sortAt(tokenTo) == tokenSort) {
                    tokenTo++;
                }
            }
            if (tokenSort == NUMBER && tokenTo - tokenFrom > MOST_FIGURES) {
                tokenSort = NO_TOKEN;
            }
        }

        /** Of what sort a TOKEN is that begins with the byte at a place. */
        private int sortAt(int at) {
            int sign = tape[at];
            if (sign == ' ' || sign == '\n') {
                return BLANK;
            }
            if (isIn(sign, 'a', 'z')) {
                return NAME;
            }
            if (isIn(sign, '0', '9')) {
                return NUMBER;
            }
            return sign == ';' ? SIGN : NO_TOKEN;
        }
    }

    /** The numbers of the first BODIES that began in an ASK. */
    private static final class Trace {
        static final int MOST = 16;

        final int[] numbers = new int[MOST];
        int length;

        void empty() {
            length = 0;
        }

        void begin(int body) {
            if (length < MOST) {
                numbers[length] = body;
                length++;
            }
        }
    }

    /** A PIECE as it is asked: its classes are the KINDS, its methods the BODIES. */
    private abstract static class Piece {
        final int number;
        final int wet;
        final int yards;
        final Trace trace;

        Piece(int number, int wet, int yards, Trace trace) {
            this.number = number;
            this.wet = wet;
            this.yards = yards;
            this.trace = trace;
        }

        int size() {
            trace.begin(10);
            return wet;
        }

        int mark() {
            trace.begin(20);
            return number;
        }
    }

    private static class Red extends Piece {
        Red(int number, int wet, int yards, Trace trace) {
            super(number, wet, yards, trace);
        }

        int size() {
            trace.begin(11);
            return super.size() + mark();
        }

        int mark() {
            trace.begin(21);
            return super.mark() + yards;
        }
    }

    private static final class Black extends Red {
        Black(int number, int wet, int yards, Trace trace) {
            super(number, wet, yards, trace);
        }

        int size() {
            trace.begin(12);
            return -super.size();
        }

        int mark() {
            trace.begin(24);
            return super.mark() + 1000;
        }
    }

    private static class Wool extends Piece {
        Wool(int number, int wet, int yards, Trace trace) {
            super(number, wet, yards, trace);
        }

        int size() {
            trace.begin(13);
            return super.size() - yards;
        }
    }

    private static final class Sheet extends Piece {
        Sheet(int number, int wet, int yards, Trace trace) {
            super(number, wet, yards, trace);
        }

        int mark() {
            trace.begin(22);
            return super.mark() - size();
        }
    }

    private static final class Sock extends Wool {
        Sock(int number, int wet, int yards, Trace trace) {
            super(number, wet, yards, trace);
        }

        int size() {
            trace.begin(14);
            return 2 * super.size();
        }

        int mark() {
            trace.begin(23);
            return super.mark() + 10 * size();
        }
    }
}
