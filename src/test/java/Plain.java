import java.math.BigInteger;
import java.util.ArrayList;
import java.util.Arrays;
import java.util.List;
import java.util.regex.Matcher;
import java.util.regex.Pattern;

/**
 * The document once more, told in another way than FourVault, for runs that are compared: faults are the
 * real machine's, texts are a pattern's, sendings are all tried, nights go minute by minute.
 */
final class Plain {
    static final int UNKNOWN = -1, OUTSIDE = -2, STATE = -3, FULL = -4, NONE = -9;
    static final long LOST = Long.MIN_VALUE;
    private static final Pattern TEXT = Pattern.compile("v[0-9]{1,6}(;[tsw][0-9]{3}){1,5}/[1-9]{0,5}");

    private interface Asked {
        long get();
    }

    private interface Rings {
        Plain of();
        int id();

        default int ring() {
            of().trace = of().trace * 31 + 4;
            return id();
        }
    }

    private static class T implements Rings {
        Plain of;
        int id, nerve, mind;

        public Plain of() {
            return of;
        }

        public int id() {
            return id;
        }

        int tell() {
            return base();
        }

        int base() {
            of.trace = of.trace * 31 + 1;
            return nerve;
        }
    }

    private static class S extends T {
        int tell() {
            of.trace = of.trace * 31 + 2;
            return super.tell() + 100;
        }
    }

    private static class W extends S {
        int tell() {
            of.trace = of.trace * 31 + 3;
            int first = super.tell();
            return first + base();
        }

        public int ring() {
            of.trace = of.trace * 31 + 5;
            return 40;
        }
    }

    private final Object[] sheets = new Object[4];
    private List<Integer> glooms = List.of();
    private List<T> takers = List.of();
    private List<Integer> depths = List.of();
    private List<int[]> readings = new ArrayList<>();
    private int trace, fault;

    // what the machine does

    private long machine(boolean isLong, Asked asked) {
        try {
            return asked.get();
        } catch (NullPointerException e) {
            fault = 1;
        } catch (ClassCastException | ArrayStoreException e) {
            fault = 2;
        } catch (IndexOutOfBoundsException e) {
            fault = 3;
        } catch (NegativeArraySizeException e) {
            fault = 4;
        }
        return isLong ? LOST : -10 - fault;
    }

    // no row has 61 cells: a greater n is beyond it all the same, and needs no such room
    private int[] cells(int k, int lane, int i, int n) {
        Object from = lane == 0 ? (byte[]) sheets[k] : lane == 1 ? (short[]) sheets[k] : (Object) (int[]) sheets[k];
        int room = java.lang.reflect.Array.getLength(from) < n ? 61 : n;
        Object row = lane == 0 ? new byte[room] : lane == 1 ? new short[room] : (Object) new int[room];
        System.arraycopy(from, i, row, 0, n);
        int[] cells = new int[n];
        for (int at = 0; at < n; at++) {
            cells[at] = java.lang.reflect.Array.getInt(row, at);
        }
        return cells;
    }

    int sheet(int k, int lane, int n) {
        fault = 0;
        if (k < 0 || k > 3) {
            return UNKNOWN;
        }
        if (lane < 0 || lane > 2 || n > 60) {
            return OUTSIDE;
        }
        return (int) machine(false, () -> {
            sheets[k] = lane == 0 ? new byte[n] : lane == 1 ? new short[n] : (Object) new int[n];
            return 1;
        });
    }

    int lose(int k) {
        if (k < 0 || k > 3) {
            return UNKNOWN;
        }
        boolean had = sheets[k] != null;
        sheets[k] = null;
        return had ? 1 : 0;
    }

    int put(int k, int i, int v) {
        fault = 0;
        if (k < 0 || k > 3) {
            return UNKNOWN;
        }
        return (int) machine(false, () -> {
            if (sheets[k] instanceof byte[]) {
                ((byte[]) sheets[k])[i] = (byte) v;
            } else if (sheets[k] instanceof short[]) {
                ((short[]) sheets[k])[i] = (short) v;
            } else {
                ((int[]) sheets[k])[i] = v;
            }
            return 1;
        });
    }

    long cell(int k, int i, int lane) {
        fault = 0;
        if (k < 0 || k > 3 || lane < 0 || lane > 2) {
            return LOST;
        }
        return machine(true, () -> lane == 0 ? ((byte[]) sheets[k])[i]
            : lane == 1 ? ((short[]) sheets[k])[i] : ((int[]) sheets[k])[i]);
    }

    int copy(int k, int i, int other, int j, int n) {
        fault = 0;
        if (k < 0 || k > 3 || other < 0 || other > 3) {
            return UNKNOWN;
        }
        return (int) machine(false, () -> {
            System.arraycopy(sheets[k], i, sheets[other], j, n);
            return n;
        });
    }

    // the vault

    int vault(int sheet, int lane, int i, int n) {
        fault = 0;
        if (sheet < 0 || sheet > 3) {
            return UNKNOWN;
        }
        if (lane < 0 || lane > 2) {
            return OUTSIDE;
        }
        return (int) machine(false, () -> read(cells(sheet, lane, i, n)));
    }

    private int read(int[] codes) {
        StringBuilder text = new StringBuilder();
        for (int code : codes) {
            text.append(code > 0 && code < 128 ? (char) code : '?');
        }
        for (int k = 1; k <= codes.length; k++) {
            Matcher matcher = TEXT.matcher(text.substring(0, k));
            if (!matcher.matches() && !matcher.hitEnd()) {
                return -100 - (k - 1);
            }
        }
        if (!TEXT.matcher(text).matches()) {
            return -100 - codes.length;
        }
        take(text.substring(1, text.indexOf("/")).split(";"), text.substring(text.indexOf("/") + 1));
        return takers.size();
    }

    private void take(String[] parts, String goods) {
        glooms = new ArrayList<>();
        takers = new ArrayList<>();
        depths = new ArrayList<>();
        readings = new ArrayList<>();
        parts[0].chars().forEach(c -> glooms.add(c - '0'));
        goods.chars().forEach(c -> depths.add(c - '0'));
        for (int a = 1; a < parts.length; a++) {
            String told = parts[a];
            takers.add(made("tsw".indexOf(told.charAt(0)), a - 1, Integer.parseInt(told.substring(1, 3)),
                told.charAt(3) - '0'));
        }
    }

    private T made(int kind, int id, int nerve, int mind) {
        T t = kind == 0 ? new T() : kind == 1 ? new S() : new W();
        t.of = this;
        t.id = id;
        t.nerve = nerve;
        t.mind = mind;
        return t;
    }

    private static int kindOf(T t) {
        return t instanceof W ? 2 : t instanceof S ? 1 : 0;
    }

    private boolean isTaker(int a) {
        return a >= 0 && a < takers.size();
    }

    private static boolean in(int v, int from, int to) {
        return v >= from && v <= to;
    }

    int ofTaker(int a, int what) {
        if (!isTaker(a)) {
            return UNKNOWN;
        }
        T t = takers.get(a);
        return in(what, 0, 2) ? new int[] {kindOf(t), t.nerve, t.mind}[what] : OUTSIDE;
    }

    int depth(int g) {
        return in(g, 0, depths.size() - 1) ? depths.get(g) : UNKNOWN;
    }

    int gloom(int k) {
        return in(k, 0, glooms.size() - 1) ? glooms.get(k) : UNKNOWN;
    }

    int hush(int k, int v) {
        if (!in(k, 0, glooms.size() - 1)) {
            return UNKNOWN;
        }
        return in(v, 0, 9) ? glooms.set(k, v) : OUTSIDE;
    }

    int think(int a, int v) {
        if (!isTaker(a)) {
            return UNKNOWN;
        }
        if (!in(v, 0, 9)) {
            return OUTSIDE;
        }
        T was = takers.set(a, made(kindOf(takers.get(a)), a, takers.get(a).nerve, v));
        return was.mind;
    }

    int brace(int a, int v) {
        if (!isTaker(a)) {
            return UNKNOWN;
        }
        if (!in(v, 0, 99)) {
            return OUTSIDE;
        }
        T was = takers.set(a, made(kindOf(takers.get(a)), a, v, takers.get(a).mind));
        return was.nerve;
    }

    private static int drained(int kind, int mind, int gloom) {
        int whole = gloom + mind;
        return kind == 0 ? whole : kind == 2 ? whole >> 1 : whole == 0 ? 0 : whole - 1;
    }

    private static int drained(T t, List<Integer> row, int m) {
        return drained(kindOf(t), t.mind, row.get(m % row.size()));
    }

    int drain(int a, int m) {
        if (!isTaker(a)) {
            return UNKNOWN;
        }
        return in(m, 0, 99) ? drained(takers.get(a), glooms, m) : OUTSIDE;
    }

    private static int held(T t, List<Integer> row, int m, int part) {
        for (int h = 40; h > 0; h--) {
            int sum = 0;
            for (int at = m; at < m + h; at++) {
                sum += drained(t, row, at) / part;
            }
            if (sum <= t.nerve) {
                return h;
            }
        }
        return 0;
    }

    int holds(int a, int m) {
        if (!isTaker(a)) {
            return UNKNOWN;
        }
        return in(m, 0, 59) ? held(takers.get(a), glooms, m, 1) : OUTSIDE;
    }

    int best(int a, int what) {
        if (!isTaker(a)) {
            return UNKNOWN;
        }
        if (!in(what, 0, 1)) {
            return OUTSIDE;
        }
        int best = glooms.size() - 1;
        for (int k = best; k >= 0; k--) {
            if (holds(a, k) >= holds(a, best)) {
                best = k;
            }
        }
        return what == 0 ? best : holds(a, best);
    }

    int together(int a, int b, int m) {
        if (!isTaker(a) || !isTaker(b) || a == b) {
            return UNKNOWN;
        }
        if (!in(m, 0, 59)) {
            return OUTSIDE;
        }
        return Math.min(held(takers.get(a), glooms, m, 2), held(takers.get(b), glooms, m, 2));
    }

    int friend(int a, int m) {
        if (!isTaker(a)) {
            return UNKNOWN;
        }
        if (!in(m, 0, 59)) {
            return OUTSIDE;
        }
        int best = NONE;
        for (int b = takers.size() - 1; b >= 0; b--) {
            if (b != a && (best == NONE || together(a, b, m) >= together(a, best, m))) {
                best = b;
            }
        }
        return best;
    }

    int night(int sheet, int lane, int i, int n, int what) {
        fault = 0;
        if (!in(sheet, 0, 3)) {
            return UNKNOWN;
        }
        if (!in(lane, 0, 2) || !in(n, 0, 20) || !(in(what, 0, 3) || in(what, 10, 14))) {
            return OUTSIDE;
        }
        return (int) machine(false, () -> toldNight(cells(sheet, lane, i, 2 * n), n, what));
    }

    private int toldNight(int[] cells, int n, int what) {
        if (takers.isEmpty()) {
            return STATE;
        }
        for (int p = 0; p < n; p++) {
            if (!isTaker(cells[2 * p])) {
                return UNKNOWN;
            }
            if (!in(cells[2 * p + 1], 0, 59)) {
                return OUTSIDE;
            }
        }
        boolean[][] isIn = new boolean[5][120];
        int sum = 0, latest = NONE, wrong = NONE;
        int[] of = new int[5];
        for (int p = 0; p < n && wrong == NONE; p++) {
            int a = cells[2 * p], m = cells[2 * p + 1];
            if (p > 0 && m < cells[2 * p - 1] || isIn[a][m]) {
                wrong = p;
                break;
            }
            int h = holds(a, m);
            Arrays.fill(isIn[a], m, m + h, true);
            sum += h;
            of[a] += h;
            latest = Math.max(latest, m + h);
        }
        if (what == 1 || wrong != NONE) {
            return what == 1 ? wrong : -100 - wrong;
        }
        int most = 0;
        for (int m = 0; m < 120; m++) {
            int count = 0;
            for (boolean[] row : isIn) {
                count += row[m] ? 1 : 0;
            }
            most = Math.max(most, count);
        }
        return what == 0 ? sum : what == 2 ? latest : what == 3 ? most : isTaker(what - 10) ? of[what - 10] : NONE;
    }

    int gets(int a, int m) {
        if (!isTaker(a)) {
            return UNKNOWN;
        }
        if (!in(m, 0, 59)) {
            return OUTSIDE;
        }
        int set = 0;
        for (int g = 0; g < depths.size(); g++) {
            set += holds(a, m) / 2 >= depths.get(g) ? 1 << g : 0;
        }
        return set;
    }

    int send(int m, int k) {
        if (!in(m, 0, 59) || !in(k, -1, 4)) {
            return OUTSIDE;
        }
        if (takers.isEmpty()) {
            return STATE;
        }
        int[] gets = new int[5];
        for (int a = 0; a < takers.size(); a++) {
            gets[a] = gets(a, m);
        }
        int most = -1;
        int[] first = null;
        for (int number = 0; number < 7776; number++) {
            int[] row = {number / 1296, number / 216 % 6, number / 36 % 6, number / 6 % 6, number % 6};
            int sum = sumOf(row, gets);
            if (sum > most) {
                most = sum;
                first = row;
            }
        }
        return k == -1 ? most : first[k] == 5 ? NONE : first[k];
    }

    /** -1 if the row (5: none) can't be. */
    private int sumOf(int[] row, int[] gets) {
        int taken = 0, sum = 0;
        for (int a = 0; a < 5; a++) {
            if (row[a] == 5) {
                continue;
            }
            int bit = 1 << row[a];
            if ((gets[a] & bit) == 0 || (taken & bit) != 0) {
                return -1;
            }
            taken |= bit;
            sum += depths.get(row[a]);
        }
        return sum;
    }

    // readings

    int reading(int a, int m, int held) {
        if (!isTaker(a)) {
            return UNKNOWN;
        }
        if (!in(m, 0, 59) || !in(held, 0, 40)) {
            return OUTSIDE;
        }
        if (readings.size() == 8) {
            return FULL;
        }
        readings.add(new int[] {a, m, held});
        return readings.size() - 1;
    }

    int back(int k) {
        if (!in(k, 0, readings.size())) {
            return OUTSIDE;
        }
        readings = new ArrayList<>(readings.subList(0, readings.size() - k));
        return readings.size();
    }

    private boolean so(List<T> gang, List<Integer> row) {
        return readings.stream().allMatch(r -> held(gang.get(r[0]), row, r[1], 1) == r[2]);
    }

    int minds(int a) {
        if (!isTaker(a)) {
            return UNKNOWN;
        }
        int set = 0;
        for (int v = 0; v < 10; v++) {
            List<T> gang = new ArrayList<>(takers);
            gang.set(a, made(kindOf(takers.get(a)), a, takers.get(a).nerve, v));
            set += so(gang, glooms) ? 1 << v : 0;
        }
        return set;
    }

    int kinds(int a) {
        if (!isTaker(a)) {
            return UNKNOWN;
        }
        int set = 0;
        for (int v = 0; v < 3; v++) {
            List<T> gang = new ArrayList<>(takers);
            gang.set(a, made(v, a, takers.get(a).nerve, takers.get(a).mind));
            set += so(gang, glooms) ? 1 << v : 0;
        }
        return set;
    }

    int glooms(int k) {
        if (!in(k, 0, glooms.size() - 1)) {
            return UNKNOWN;
        }
        int set = 0;
        for (int v = 0; v < 10; v++) {
            List<Integer> row = new ArrayList<>(glooms);
            row.set(k, v);
            set += so(takers, row) ? 1 << v : 0;
        }
        return set;
    }

    long odds(int a, int n, int which) {
        if (!isTaker(a) || !in(n, 0, 40) || !in(which, 0, 1)) {
            return LOST;
        }
        List<List<Integer>> rows = new ArrayList<>();
        rows.add(new ArrayList<>());
        for (int gloom : glooms) {
            List<List<Integer>> longer = new ArrayList<>();
            for (List<Integer> row : rows) {
                for (int weighs = 0; weighs < 2; weighs++) {
                    List<Integer> next = new ArrayList<>(row);
                    next.add(weighs * gloom);
                    longer.add(next);
                }
            }
            rows = longer;
        }
        BigInteger upper = BigInteger.valueOf(rows.stream().filter(r -> held(takers.get(a), r, 0, 1) >= n).count());
        BigInteger lower = BigInteger.valueOf(rows.size());
        return (which == 0 ? upper : lower).divide(upper.gcd(lower)).longValueExact();
    }

    // parts

    int tell(int a) {
        return isTaker(a) ? takers.get(a).tell() : UNKNOWN;
    }

    int ring(int a) {
        return isTaker(a) ? takers.get(a).ring() : UNKNOWN;
    }

    int as(int a, int kind) {
        fault = 0;
        if (!isTaker(a)) {
            return UNKNOWN;
        }
        if (!in(kind, 0, 2)) {
            return OUTSIDE;
        }
        Object t = takers.get(a);
        return (int) machine(false, () -> (kind == 0 ? (T) t : kind == 1 ? (S) t : (W) t) == null ? 0 : 1);
    }

    int trace() {
        return trace;
    }

    int fault() {
        return fault;
    }

    int many(int what) {
        if (!in(what, 0, 3)) {
            return OUTSIDE;
        }
        return new int[] {takers.size(), depths.size(), glooms.size(), readings.size()}[what];
    }
}
