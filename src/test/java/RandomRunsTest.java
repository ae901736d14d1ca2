import java.util.Random;

/** Runs of up to 512 calls, drawn from fixed seeds, answered by FourVault and by Plain alike. */
public final class RandomRunsTest {
    private static final int RUNS = 1500;
    /** So that the longest telling that begins below it ends within the 512 calls of an object. */
    private static final int LAST = 460;
    private static final int[] FAR = {Integer.MIN_VALUE, Integer.MAX_VALUE, -2, -10, 61, 100, 1 << 30, -1 << 30};
    private final Random random;
    private final FourVault x = new FourVault();
    private final Plain y = new Plain();
    private int calls = 0;

    private RandomRunsTest(int seed) {
        random = new Random(seed);
    }

    public static void main(String[] args) {
        for (int seed = 0; seed < RUNS; seed++) {
            new RandomRunsTest(seed).run(seed);
        }
        Check.end("RandomRunsTest");
    }

    private void run(int seed) {
        if (seed % 10 != 0) {
            tellVault();
        }
        while (calls < LAST) {
            int draw = random.nextInt(100);
            if (draw < 2) {
                tellVault();
            } else if (draw < 8) {
                tellNight();
            } else if (draw < 12) {
                trueReading();
            } else {
                oneCall(random.nextInt(31));
            }
        }
    }

    private void due(String call, long got, long want) {
        calls++;
        Check.due("call " + calls + ": " + call, got, want);
    }

    /** Most often 0 .. bound - 1, now and then just beside it or far off. */
    private int near(int bound) {
        int draw = random.nextInt(40);
        return draw == 0 ? FAR[random.nextInt(FAR.length)] : draw == 1 ? -1 : draw == 2 ? bound : random.nextInt(bound);
    }

    private String text() {
        StringBuilder text = new StringBuilder("v");
        for (int k = random.nextInt(6); k >= 0; k--) {
            text.append(random.nextInt(random.nextBoolean() ? 3 : 10));
        }
        for (int a = random.nextInt(5); a >= 0; a--) {
            text.append(';').append("tsw".charAt(random.nextInt(3)));
            text.append(random.nextInt(10)).append(random.nextInt(10)).append(random.nextInt(random.nextInt(10) + 1));
        }
        text.append('/');
        for (int g = random.nextInt(6); g > 0; g--) {
            text.append(random.nextInt(random.nextInt(9) + 1) + 1);
        }
        if (random.nextInt(4) == 0) {
            spoil(text);
        }
        return text.toString();
    }

    private void spoil(StringBuilder text) {
        String signs = "vtsw;/0123456789x";
        int at = random.nextInt(text.length());
        char sign = signs.charAt(random.nextInt(signs.length()));
        switch (random.nextInt(4)) {
            case 0: text.setCharAt(at, sign); break;
            case 1: text.deleteCharAt(at); break;
            case 2: text.insert(at, sign); break;
            default: text.setLength(at);
        }
    }

    private void tellVault() {
        int[] codes = Check.codes(text());
        int k = random.nextInt(4), lane = random.nextInt(3), from = random.nextInt(4), behind = random.nextInt(3);
        int size = from + codes.length + behind;
        due("sheet", x.sheet(k, lane, size), y.sheet(k, lane, size));
        for (int i = 0; i < codes.length; i++) {
            due("put", x.put(k, from + i, codes[i]), y.put(k, from + i, codes[i]));
        }
        due("vault", x.vault(k, lane, from, codes.length), y.vault(k, lane, from, codes.length));
    }

    private void tellNight() {
        int n = random.nextInt(8), k = random.nextInt(4), lane = random.nextInt(3), from = random.nextInt(3);
        due("sheet", x.sheet(k, lane, from + 2 * n), y.sheet(k, lane, from + 2 * n));
        int minute = random.nextInt(10);
        int step = random.nextInt(12) + 1;
        int takers = Math.max(1, y.many(0));
        for (int p = 0; p < n; p++) {
            int a = random.nextInt(80) == 0 ? near(takers) : random.nextInt(takers);
            due("put", x.put(k, from + 2 * p, a), y.put(k, from + 2 * p, a));
            int m = random.nextInt(80) == 0 ? near(60) : minute;
            due("put", x.put(k, from + 2 * p + 1, m), y.put(k, from + 2 * p + 1, m));
            minute = Math.min(59, minute + random.nextInt(step));
        }
        for (int what = 0; what < 15; what++) {
            due("night " + what, x.night(k, lane, from, n, what), y.night(k, lane, from, n, what));
        }
    }

    private void trueReading() {
        int a = random.nextInt(5), m = random.nextInt(60);
        int held = Math.max(0, y.holds(a, m));
        due("reading", x.reading(a, m, held), y.reading(a, m, held));
        int k = random.nextInt(6);
        due("glooms", x.glooms(k), y.glooms(k));
        due("minds", x.minds(a), y.minds(a));
        due("kinds", x.kinds(a), y.kinds(a));
    }

    private void oneCall(int which) {
        if (which < 16) {
            ofVault(which);
        } else {
            ofParts(which);
        }
        due("fault behind " + which, x.fault(), y.fault());
    }

    private void ofVault(int which) {
        int a = near(5), b = near(5), m = near(60), v = near(10), k = near(6);
        switch (which) {
            case 0: int of = near(3); due("ofTaker", x.ofTaker(a, of), y.ofTaker(a, of)); break;
            case 1: due("depth", x.depth(a), y.depth(a)); break;
            case 2: due("gloom", x.gloom(k), y.gloom(k)); break;
            case 3: due("hush", x.hush(k, v), y.hush(k, v)); break;
            case 4: due("think", x.think(a, v), y.think(a, v)); break;
            case 5: int n = near(100); due("brace", x.brace(a, n), y.brace(a, n)); break;
            case 6: int p = near(100); due("drain", x.drain(a, p), y.drain(a, p)); break;
            case 7: due("holds", x.holds(a, m), y.holds(a, m)); break;
            case 8: int w = near(2); due("best", x.best(a, w), y.best(a, w)); break;
            case 9: due("together", x.together(a, b, m), y.together(a, b, m)); break;
            case 10: due("friend", x.friend(a, m), y.friend(a, m)); break;
            case 11: due("gets", x.gets(a, m), y.gets(a, m)); break;
            case 12: int s = near(6) - 1; due("send", x.send(m, s), y.send(m, s)); break;
            case 13: int h = near(41); due("reading", x.reading(a, m, h), y.reading(a, m, h)); break;
            case 14: int t = near(5); due("back", x.back(t), y.back(t)); break;
            default: due("minds", x.minds(a), y.minds(a));
        }
    }

    private void ofParts(int which) {
        int a = near(5), k = near(4), lane = near(3), i = near(61);
        int v = random.nextInt(4) == 0 ? random.nextInt() : near(200);
        switch (which) {
            case 16: due("kinds", x.kinds(a), y.kinds(a)); break;
            case 17: int place = near(6); due("glooms", x.glooms(place), y.glooms(place)); break;
            case 18: case 19: int n = near(41), w = near(2); due("odds", x.odds(a, n, w), y.odds(a, n, w)); break;
            case 20:
                int size = random.nextBoolean() ? near(61) : near(8);
                due("sheet", x.sheet(k, lane, size), y.sheet(k, lane, size));
                break;
            case 21: due("lose", x.lose(k), y.lose(k)); break;
            case 22: due("put", x.put(k, i, v), y.put(k, i, v)); break;
            case 23: due("cell", x.cell(k, i, lane), y.cell(k, i, lane)); break;
            case 24: case 25:
                int o = near(4), j = near(9), c = near(9), f = near(9);
                due("copy", x.copy(k, f, o, j, c), y.copy(k, f, o, j, c));
                break;
            case 26: due("tell", x.tell(a), y.tell(a)); break;
            case 27: due("ring", x.ring(a), y.ring(a)); break;
            case 28: int kind = near(3); due("as", x.as(a, kind), y.as(a, kind)); break;
            case 29: int what = near(4); due("many", x.many(what), y.many(what)); break;
            default:
                int u = near(21), q = near(15);
                due("night", x.night(k, lane, i, u, q), y.night(k, lane, i, u, q));
                int from = near(9);
                due("vault", x.vault(k, lane, from, u), y.vault(k, lane, from, u));
        }
        due("trace", x.trace(), y.trace());
    }
}
