/** A vault at four in the morning, told in a text; ../shared/DOC.md promises what each call answers. */
public final class FourVault {
    public static final int UNKNOWN = -1, OUTSIDE = -2, STATE = -3, FULL = -4, NONE = -9;
    public static final long LOST = Long.MIN_VALUE;

    private static final int FAULT_NULL = 1, FAULT_CAST = 2, FAULT_INDEX = 3, FAULT_SIZE = 4;
    private static final int SHEETS = 4, MOST_CELLS = 60;
    private static final int LANE_BYTES = 0, LANE_SHORTS = 1, LANE_INTS = 2;
    private static final int KIND_TAKER = 0, KIND_SINGER = 1, KIND_WIDOW = 2;
    private static final int MOST_PLACES = 6, MOST_TAKERS = 5, MOST_GOODS = 5;
    private static final int MOST_NERVE = 99, MOST_MINUTES = 60, MOST_DRAINS = 100, MOST_HELD = 40;
    private static final int MOST_READINGS = 8, MOST_PAIRS = 20;

    private final Row[] sheets = new Row[SHEETS];
    private final Reader reader = new Reader();
    private final Readings readings = new Readings();
    private final Night told = new Night();
    private final Sending sending = new Sending();
    private final Trace trace = new Trace();
    private Vault kept = new Vault();
    private int fault = 0;

    public FourVault() {
    }

    // ---- 1 the vault

    public int vault(int sheet, int lane, int i, int n) {
        fault = 0;
        if (!isSheet(sheet)) {
            return UNKNOWN;
        }
        if (!isLane(lane)) {
            return OUTSIDE;
        }
        Row row = sheets[sheet];
        if (row == null) {
            return faulted(FAULT_NULL);
        }
        if (row.lane != lane) {
            return faulted(FAULT_CAST);
        }
        if (n < 0) {
            return faulted(FAULT_SIZE);
        }
        if (!row.hasCells(i, n)) {
            return faulted(FAULT_INDEX);
        }
        int firstFault = reader.readAll(row, i, n);
        if (firstFault != NONE) {
            return -100 - firstFault;
        }
        kept = reader.handOver(kept);
        readings.count = 0;
        return kept.takerCount;
    }

    public int ofTaker(int a, int what) {
        Taker taker = kept.takerAt(a);
        if (taker == null) {
            return UNKNOWN;
        }
        switch (what) {
            case 0: return taker.kindNumber();
            case 1: return taker.nerve;
            case 2: return taker.mind;
            default: return OUTSIDE;
        }
    }

    public int depth(int g) {
        return kept.isGood(g) ? kept.depths[g] : UNKNOWN;
    }

    public int gloom(int k) {
        return kept.isPlace(k) ? kept.weights[k] : UNKNOWN;
    }

    public int hush(int k, int v) {
        if (!kept.isPlace(k)) {
            return UNKNOWN;
        }
        if (v < 0 || v > 9) {
            return OUTSIDE;
        }
        int was = kept.weights[k];
        kept.weights[k] = v;
        return was;
    }

    public int think(int a, int v) {
        Taker taker = kept.takerAt(a);
        if (taker == null) {
            return UNKNOWN;
        }
        if (v < 0 || v > 9) {
            return OUTSIDE;
        }
        int was = taker.mind;
        taker.mind = v;
        return was;
    }

    public int brace(int a, int v) {
        Taker taker = kept.takerAt(a);
        if (taker == null) {
            return UNKNOWN;
        }
        if (v < 0 || v > MOST_NERVE) {
            return OUTSIDE;
        }
        int was = taker.nerve;
        taker.nerve = v;
        return was;
    }

    public int drain(int a, int m) {
        Taker taker = kept.takerAt(a);
        if (taker == null) {
            return UNKNOWN;
        }
        if (m < 0 || m >= MOST_DRAINS) {
            return OUTSIDE;
        }
        return taker.drainBy(kept.weightIn(m));
    }

    // ---- 2 how long they hold

    public int holds(int a, int m) {
        Taker taker = kept.takerAt(a);
        if (taker == null) {
            return UNKNOWN;
        }
        return isMinute(m) ? kept.heldAlone(taker, m) : OUTSIDE;
    }

    public int best(int a, int what) {
        Taker taker = kept.takerAt(a);
        if (taker == null) {
            return UNKNOWN;
        }
        if (what != 0 && what != 1) {
            return OUTSIDE;
        }
        int place = kept.bestPlace(taker);
        return what == 0 ? place : kept.heldAlone(taker, place);
    }

    public int together(int a, int b, int m) {
        Taker one = kept.takerAt(a);
        Taker other = kept.takerAt(b);
        if (one == null || other == null || a == b) {
            return UNKNOWN;
        }
        return isMinute(m) ? kept.heldByTwo(one, other, m) : OUTSIDE;
    }

    public int friend(int a, int m) {
        Taker taker = kept.takerAt(a);
        if (taker == null) {
            return UNKNOWN;
        }
        return isMinute(m) ? kept.bestFriend(taker, m) : OUTSIDE;
    }

    public int night(int sheet, int lane, int i, int n, int what) {
        fault = 0;
        if (!isSheet(sheet)) {
            return UNKNOWN;
        }
        if (!isLane(lane) || n < 0 || n > MOST_PAIRS || !Night.tells(what)) {
            return OUTSIDE;
        }
        Row row = sheets[sheet];
        if (row == null) {
            return faulted(FAULT_NULL);
        }
        if (row.lane != lane) {
            return faulted(FAULT_CAST);
        }
        if (!row.hasCells(i, 2 * n)) {
            return faulted(FAULT_INDEX);
        }
        if (!kept.stands()) {
            return STATE;
        }
        int refusal = told.readPairs(kept, row, i, n);
        return refusal == 0 ? told.answer(kept, what) : refusal;
    }

    // ---- 3 goods

    public int gets(int a, int m) {
        Taker taker = kept.takerAt(a);
        if (taker == null) {
            return UNKNOWN;
        }
        return isMinute(m) ? kept.goodsGot(taker, m) : OUTSIDE;
    }

    public int send(int m, int k) {
        if (!isMinute(m) || k < -1 || k >= MOST_TAKERS) {
            return OUTSIDE;
        }
        if (!kept.stands()) {
            return STATE;
        }
        sending.weigh(kept, m);
        return k == -1 ? sending.most() : sending.goodOf(kept, k);
    }

    // ---- 4 how long they held

    public int reading(int a, int m, int held) {
        if (kept.takerAt(a) == null) {
            return UNKNOWN;
        }
        if (!isMinute(m) || held < 0 || held > MOST_HELD) {
            return OUTSIDE;
        }
        return readings.add(a, m, held);
    }

    public int back(int k) {
        if (k < 0 || k > readings.count) {
            return OUTSIDE;
        }
        readings.count -= k;
        return readings.count;
    }

    public int minds(int a) {
        Taker taker = kept.takerAt(a);
        if (taker == null) {
            return UNKNOWN;
        }
        int was = taker.mind;
        int set = 0;
        for (int v = 0; v <= 9; v++) {
            taker.mind = v;
            if (readings.allAreSo(kept)) {
                set |= 1 << v;
            }
        }
        taker.mind = was;
        return set;
    }

    public int kinds(int a) {
        Taker taker = kept.takerAt(a);
        if (taker == null) {
            return UNKNOWN;
        }
        int set = 0;
        for (int kind = KIND_TAKER; kind <= KIND_WIDOW; kind++) {
            kept.takers[a] = newTaker(kind, a, taker.nerve, taker.mind);
            if (readings.allAreSo(kept)) {
                set |= 1 << kind;
            }
        }
        kept.takers[a] = taker;
        return set;
    }

    public int glooms(int k) {
        if (!kept.isPlace(k)) {
            return UNKNOWN;
        }
        int was = kept.weights[k];
        int set = 0;
        for (int v = 0; v <= 9; v++) {
            kept.weights[k] = v;
            if (readings.allAreSo(kept)) {
                set |= 1 << v;
            }
        }
        kept.weights[k] = was;
        return set;
    }

    public long odds(int a, int n, int which) {
        Taker taker = kept.takerAt(a);
        if (taker == null || n < 0 || n > MOST_HELD || which < 0 || which > 1) {
            return LOST;
        }
        int upper = kept.setsHeld(taker, n);
        int lower = 1 << kept.places;
        // lower is a power of two, so least terms need no other divisor than 2
        for (int k = 0; k < kept.places && upper % 2 == 0; k++) {
            upper /= 2;
            lower /= 2;
        }
        return which == 0 ? upper : lower;
    }

    // ---- 5 sheets, parts

    public int sheet(int k, int lane, int n) {
        fault = 0;
        if (!isSheet(k)) {
            return UNKNOWN;
        }
        if (!isLane(lane) || n > MOST_CELLS) {
            return OUTSIDE;
        }
        if (n < 0) {
            return faulted(FAULT_SIZE);
        }
        sheets[k] = new Row(lane, n);
        return 1;
    }

    public int lose(int k) {
        if (!isSheet(k)) {
            return UNKNOWN;
        }
        int had = sheets[k] == null ? 0 : 1;
        sheets[k] = null;
        return had;
    }

    public int put(int k, int i, int v) {
        fault = 0;
        if (!isSheet(k)) {
            return UNKNOWN;
        }
        Row row = sheets[k];
        if (row == null) {
            return faulted(FAULT_NULL);
        }
        if (!row.hasCells(i, 1)) {
            return faulted(FAULT_INDEX);
        }
        row.cells[i] = row.cut(v);
        return 1;
    }

    public long cell(int k, int i, int lane) {
        fault = 0;
        if (!isSheet(k) || !isLane(lane)) {
            return LOST;
        }
        Row row = sheets[k];
        if (row == null) {
            return lost(FAULT_NULL);
        }
        if (row.lane != lane) {
            return lost(FAULT_CAST);
        }
        if (!row.hasCells(i, 1)) {
            return lost(FAULT_INDEX);
        }
        return row.cells[i];
    }

    public int copy(int k, int i, int other, int j, int n) {
        fault = 0;
        if (!isSheet(k) || !isSheet(other)) {
            return UNKNOWN;
        }
        Row from = sheets[k];
        Row to = sheets[other];
        if (from == null || to == null) {
            return faulted(FAULT_NULL);
        }
        if (from.lane != to.lane) {
            return faulted(FAULT_CAST);
        }
        if (!from.hasCells(i, n) || !to.hasCells(j, n)) {
            return faulted(FAULT_INDEX);
        }
        System.arraycopy(from.cells, i, to.cells, j, n);
        return n;
    }

    public int tell(int a) {
        Taker taker = kept.takerAt(a);
        return taker == null ? UNKNOWN : taker.telling(trace);
    }

    public int ring(int a) {
        Taker taker = kept.takerAt(a);
        return taker == null ? UNKNOWN : taker.rung(trace);
    }

    public int as(int a, int kind) {
        fault = 0;
        Taker taker = kept.takerAt(a);
        if (taker == null) {
            return UNKNOWN;
        }
        if (kind < KIND_TAKER || kind > KIND_WIDOW) {
            return OUTSIDE;
        }
        if (kind == KIND_SINGER && !(taker instanceof Singer)) {
            return faulted(FAULT_CAST);
        }
        if (kind == KIND_WIDOW && !(taker instanceof Widow)) {
            return faulted(FAULT_CAST);
        }
        return 1;
    }

    public int trace() {
        return trace.left;
    }

    public int fault() {
        return fault;
    }

    public int many(int what) {
        switch (what) {
            case 0: return kept.takerCount;
            case 1: return kept.goods;
            case 2: return kept.places;
            case 3: return readings.count;
            default: return OUTSIDE;
        }
    }

    private int faulted(int number) {
        fault = number;
        return -10 - number;
    }

    private long lost(int number) {
        fault = number;
        return LOST;
    }

    private static boolean isSheet(int k) {
        return k >= 0 && k < SHEETS;
    }

    private static boolean isLane(int lane) {
        return lane >= LANE_BYTES && lane <= LANE_INTS;
    }

    private static boolean isMinute(int m) {
        return m >= 0 && m < MOST_MINUTES;
    }

    private static Taker newTaker(int kind, int number, int nerve, int mind) {
        switch (kind) {
            case KIND_SINGER: return new Singer(number, nerve, mind);
            case KIND_WIDOW: return new Widow(number, nerve, mind);
            default: return new Taker(number, nerve, mind);
        }
    }

    private static final class Trace {
        int left = 0;

        void leave(int number) {
            left = 31 * left + number;
        }
    }

    private static class Taker {
        final int number;
        int nerve;
        int mind;

        Taker(int number, int nerve, int mind) {
            this.number = number;
            this.nerve = nerve;
            this.mind = mind;
        }

        int kindNumber() {
            return KIND_TAKER;
        }

        int drainBy(int weight) {
            return weight + mind;
        }

        int telling(Trace trace) {
            return takersTelling(trace);
        }

        // a body of its own, as a WIDOW comes to it past the SINGER's, which super can't do
        final int takersTelling(Trace trace) {
            trace.leave(1);
            return nerve;
        }

        int rung(Trace trace) {
            trace.leave(4);
            return number;
        }
    }

    private static class Singer extends Taker {
        Singer(int number, int nerve, int mind) {
            super(number, nerve, mind);
        }

        int kindNumber() {
            return KIND_SINGER;
        }

        int drainBy(int weight) {
            return Math.max(0, weight + mind - 1);
        }

        int telling(Trace trace) {
            trace.leave(2);
            return takersTelling(trace) + 100;
        }
    }

    private static final class Widow extends Singer {
        Widow(int number, int nerve, int mind) {
            super(number, nerve, mind);
        }

        int kindNumber() {
            return KIND_WIDOW;
        }

        int drainBy(int weight) {
            return (weight + mind) / 2;
        }

        int telling(Trace trace) {
            trace.leave(3);
            int singers = super.telling(trace);
            return singers + takersTelling(trace);
        }

        int rung(Trace trace) {
            trace.leave(5);
            return 40;
        }
    }

    private static final class Row {
        final int lane;
        final int[] cells;

        Row(int lane, int size) {
            this.lane = lane;
            this.cells = new int[Math.max(0, size)];
        }

        boolean hasCells(int from, int n) {
            return from >= 0 && from <= cells.length && n >= 0 && n <= cells.length - from;
        }

        int cut(int v) {
            switch (lane) {
                case LANE_BYTES: return (byte) v;
                case LANE_SHORTS: return (short) v;
                default: return v;
            }
        }
    }

    private static final class Vault {
        final int[] weights = new int[MOST_PLACES];
        final Taker[] takers = new Taker[MOST_TAKERS];
        final int[] depths = new int[MOST_GOODS];
        int places = 0;
        int takerCount = 0;
        int goods = 0;

        void clear() {
            places = 0;
            takerCount = 0;
            goods = 0;
        }

        boolean stands() {
            return takerCount > 0;
        }

        boolean isPlace(int k) {
            return k >= 0 && k < places;
        }

        boolean isGood(int g) {
            return g >= 0 && g < goods;
        }

        Taker takerAt(int a) {
            return a >= 0 && a < takerCount ? takers[a] : null;
        }

        int weightIn(int minute) {
            return places > 0 && minute >= 0 ? weights[minute % places] : 0;
        }

        int heldAlone(Taker taker, int minute) {
            int left = taker.nerve;
            for (int held = 0; held < MOST_HELD; held++) {
                left -= taker.drainBy(weightIn(minute + held));
                if (left < 0) {
                    return held;
                }
            }
            return MOST_HELD;
        }

        int heldInPair(Taker taker, int minute) {
            int left = taker.nerve;
            for (int held = 0; held < MOST_HELD; held++) {
                left -= taker.drainBy(weightIn(minute + held)) / 2;
                if (left < 0) {
                    return held;
                }
            }
            return MOST_HELD;
        }

        int heldByTwo(Taker one, Taker other, int minute) {
            return Math.min(heldInPair(one, minute), heldInPair(other, minute));
        }

        int bestPlace(Taker taker) {
            int best = 0;
            int most = -1;
            for (int k = 0; k < places; k++) {
                int held = heldAlone(taker, k);
                if (held > most) {
                    most = held;
                    best = k;
                }
            }
            return best;
        }

        int bestFriend(Taker taker, int minute) {
            int best = NONE;
            int most = -1;
            for (int b = 0; b < takerCount; b++) {
                Taker other = takerAt(b);
                int held = other == null || b == taker.number ? -1 : heldByTwo(taker, other, minute);
                if (held > most) {
                    most = held;
                    best = b;
                }
            }
            return best;
        }

        int goodsGot(Taker taker, int minute) {
            int held = heldAlone(taker, minute);
            int set = 0;
            for (int g = 0; g < goods; g++) {
                if (held >= 2 * depths[g]) {
                    set |= 1 << g;
                }
            }
            return set;
        }

        /** In how many sets of PLACES that keep their weight the taker holds n minutes from minute 0 on. */
        int setsHeld(Taker taker, int n) {
            int count = 0;
            for (int set = 0; set < 1 << places; set++) {
                if (drainIfOnly(set, taker, n) <= taker.nerve) {
                    count++;
                }
            }
            return count;
        }

        int drainIfOnly(int set, Taker taker, int n) {
            int sum = 0;
            int place = 0;
            for (int minute = 0; minute < n; minute++) {
                boolean weighs = (set >> place & 1) == 1;
                sum += taker.drainBy(weighs ? weightIn(place) : 0);
                place = place + 1 < places ? place + 1 : 0;
            }
            return sum;
        }
    }

    /** Takes a TEXT code by code into a vault of its own, so that a wrong TEXT leaves the kept one as it was. */
    private static final class Reader {
        static final int DUE_V = 0, DUE_FIRST_GLOOM = 1, DUE_GLOOM = 2, DUE_KIND = 3, DUE_TENS = 4;
        static final int DUE_ONES = 5, DUE_MIND = 6, DUE_TAKER = 7, DUE_GOOD = 8;

        Vault draft = new Vault();
        final int[] kindsRead = new int[MOST_TAKERS];
        final int[] nervesRead = new int[MOST_TAKERS];
        final int[] mindsRead = new int[MOST_TAKERS];
        int due = DUE_V;
        int kind = 0;
        int nerve = 0;

        /** The FIRST FAULT, or NONE. */
        int readAll(Row row, int from, int n) {
            draft.clear();
            due = DUE_V;
            for (int at = 0; at < n; at++) {
                if (!takes(row.cells[from + at])) {
                    return at;
                }
            }
            return due == DUE_GOOD ? NONE : n;
        }

        /** The vault that was read, for the old one; its takers are made only here, as a wrong TEXT needs none. */
        Vault handOver(Vault old) {
            Vault read = draft;
            for (int a = 0; a < read.takerCount; a++) {
                read.takers[a] = newTaker(kindsRead[a], a, nervesRead[a], mindsRead[a]);
            }
            draft = old;
            return read;
        }

        boolean takes(int code) {
            switch (due) {
                case DUE_V: return goesOn(code == 'v', DUE_FIRST_GLOOM);
                case DUE_FIRST_GLOOM: return takesGloom(code);
                case DUE_GLOOM: return code == ';' ? goesOn(true, DUE_KIND) : takesGloom(code);
                case DUE_KIND: return takesKind(code);
                case DUE_TENS: return takesTens(code);
                case DUE_ONES: return takesOnes(code);
                case DUE_MIND: return takesMind(code);
                case DUE_TAKER: return takesBehindTaker(code);
                default: return takesGood(code);
            }
        }

        boolean goesOn(boolean right, int next) {
            if (right) {
                due = next;
            }
            return right;
        }

        boolean takesGloom(int code) {
            if (!isDigit(code) || draft.places >= MOST_PLACES) {
                return false;
            }
            draft.weights[draft.places] = code - '0';
            draft.places++;
            return goesOn(true, DUE_GLOOM);
        }

        boolean takesKind(int code) {
            switch (code) {
                case 't': kind = KIND_TAKER; break;
                case 's': kind = KIND_SINGER; break;
                case 'w': kind = KIND_WIDOW; break;
                default: return false;
            }
            return goesOn(true, DUE_TENS);
        }

        boolean takesTens(int code) {
            nerve = 10 * (code - '0');
            return goesOn(isDigit(code), DUE_ONES);
        }

        boolean takesOnes(int code) {
            nerve += code - '0';
            return goesOn(isDigit(code), DUE_MIND);
        }

        boolean takesMind(int code) {
            if (!isDigit(code) || draft.takerCount >= MOST_TAKERS) {
                return false;
            }
            int number = draft.takerCount;
            kindsRead[number] = kind;
            nervesRead[number] = nerve;
            mindsRead[number] = code - '0';
            draft.takerCount++;
            return goesOn(true, DUE_TAKER);
        }

        boolean takesBehindTaker(int code) {
            if (code == '/') {
                return goesOn(true, DUE_GOOD);
            }
            return goesOn(code == ';' && draft.takerCount < MOST_TAKERS, DUE_KIND);
        }

        boolean takesGood(int code) {
            if (!isDigit(code) || code == '0' || draft.goods >= MOST_GOODS) {
                return false;
            }
            draft.depths[draft.goods] = code - '0';
            draft.goods++;
            return true;
        }

        static boolean isDigit(int code) {
            return code >= '0' && code <= '9';
        }
    }

    private static final class Night {
        final int[] takers = new int[MOST_PAIRS];
        final int[] begins = new int[MOST_PAIRS];
        final int[] ends = new int[MOST_PAIRS];
        int count = 0;

        static boolean tells(int what) {
            return what >= 0 && what <= 3 || what >= 10 && what <= 14;
        }

        /** 0, or the refusal of the first pair that is none. */
        int readPairs(Vault vault, Row row, int from, int n) {
            count = 0;
            for (int p = 0; p < n; p++) {
                int a = row.cells[from + 2 * p];
                int minute = row.cells[from + 2 * p + 1];
                Taker taker = vault.takerAt(a);
                if (taker == null) {
                    return UNKNOWN;
                }
                if (!isMinute(minute)) {
                    return OUTSIDE;
                }
                takers[p] = a;
                begins[p] = minute;
                ends[p] = minute + vault.heldAlone(taker, minute);
                count = p + 1;
            }
            return 0;
        }

        int answer(Vault vault, int what) {
            int wrong = firstWrong();
            if (what == 1) {
                return wrong;
            }
            if (wrong != NONE) {
                return -100 - wrong;
            }
            switch (what) {
                case 0: return minutesOfAll();
                case 2: return latestEnd();
                case 3: return mostAtOnce();
                default: return vault.takerAt(what - 10) == null ? NONE : minutesOf(what - 10);
            }
        }

        int firstWrong() {
            for (int p = 1; p < count; p++) {
                if (begins[p] < begins[p - 1] || isStillIn(p)) {
                    return p;
                }
            }
            return NONE;
        }

        boolean isStillIn(int pair) {
            for (int p = 0; p < pair; p++) {
                if (takers[p] == takers[pair] && ends[p] > begins[pair]) {
                    return true;
                }
            }
            return false;
        }

        int minutesOfAll() {
            int sum = 0;
            for (int p = 0; p < count; p++) {
                sum += ends[p] - begins[p];
            }
            return sum;
        }

        int minutesOf(int a) {
            int sum = 0;
            for (int p = 0; p < count; p++) {
                if (takers[p] == a) {
                    sum += ends[p] - begins[p];
                }
            }
            return sum;
        }

        int latestEnd() {
            int latest = NONE;
            for (int p = 0; p < count; p++) {
                latest = Math.max(latest, ends[p]);
            }
            return latest;
        }

        // how many are in grows only in a minute in which somebody goes in
        int mostAtOnce() {
            int most = 0;
            for (int p = 0; p < count; p++) {
                most = Math.max(most, inAt(begins[p]));
            }
            return most;
        }

        int inAt(int minute) {
            int in = 0;
            for (int p = 0; p < count; p++) {
                if (begins[p] <= minute && minute < ends[p]) {
                    in++;
                }
            }
            return in;
        }
    }

    /** The most that TAKERS from one on can get, by the set of GOODS that those ahead of them have taken. */
    private static final class Sending {
        static final int SETS = 1 << MOST_GOODS;

        final int[][] mostFrom = new int[MOST_TAKERS + 1][SETS];
        final int[] got = new int[MOST_TAKERS];

        void weigh(Vault vault, int minute) {
            int last = vault.takerCount;
            for (int taken = 0; taken < SETS; taken++) {
                mostFrom[last][taken] = 0;
            }
            for (int a = last - 1; a >= 0; a--) {
                Taker taker = vault.takerAt(a);
                got[a] = taker == null ? 0 : vault.goodsGot(taker, minute);
                for (int taken = 0; taken < SETS; taken++) {
                    mostFrom[a][taken] = mostWith(vault, a, taken);
                }
            }
        }

        int mostWith(Vault vault, int a, int taken) {
            int most = mostFrom[a + 1][taken];
            for (int g = 0; g < vault.goods; g++) {
                if (isFree(a, g, taken)) {
                    most = Math.max(most, withGood(vault, a, g, taken));
                }
            }
            return most;
        }

        boolean isFree(int a, int g, int taken) {
            return (got[a] & ~taken & 1 << g) != 0;
        }

        int withGood(Vault vault, int a, int g, int taken) {
            return vault.depths[g] + mostFrom[a + 1][taken | 1 << g];
        }

        int most() {
            return mostFrom[0][0];
        }

        int goodOf(Vault vault, int k) {
            int taken = 0;
            int good = NONE;
            for (int a = 0; a <= k; a++) {
                good = a < vault.takerCount ? firstGood(vault, a, taken) : NONE;
                taken |= good == NONE ? 0 : 1 << good;
            }
            return good;
        }

        int firstGood(Vault vault, int a, int taken) {
            for (int g = 0; g < vault.goods; g++) {
                if (isFree(a, g, taken) && withGood(vault, a, g, taken) == mostFrom[a][taken]) {
                    return g;
                }
            }
            return NONE;
        }
    }

    private static final class Readings {
        final int[] takers = new int[MOST_READINGS];
        final int[] begins = new int[MOST_READINGS];
        final int[] helds = new int[MOST_READINGS];
        int count = 0;

        int add(int a, int minute, int held) {
            if (count >= MOST_READINGS) {
                return FULL;
            }
            takers[count] = a;
            begins[count] = minute;
            helds[count] = held;
            count++;
            return count - 1;
        }

        boolean allAreSo(Vault vault) {
            for (int r = 0; r < count; r++) {
                Taker taker = vault.takerAt(takers[r]);
                if (taker == null || vault.heldAlone(taker, begins[r]) != helds[r]) {
                    return false;
                }
            }
            return true;
        }
    }
}
