/** Promises 1 to 9, sentence by sentence: a new object, vault's refusals and FAULTS, parts, changes, drains. */
public final class VaultEdgesTest {
    private static final int MIN = Integer.MIN_VALUE, MAX = Integer.MAX_VALUE;

    public static void main(String[] args) {
        newObject();
        ofALesserVault();
        vaultRefusals();
        vaultFaults();
        vaultIndex();
        ofTaker();
        depthAndGloom();
        hush();
        think();
        brace();
        drainBounds();
        drainByKind();
        gloomBehindTheLastPlace();
        Check.end("VaultEdgesTest");
    }

    private static void newObject() {
        Check.sentence("1: No VAULT: no TAKERS");
        String[] ofTaker = {"tell", "ring", "minds", "kinds"};
        for (String name : ofTaker) {
            Scene.refused(FourVault::new, FourVault.UNKNOWN, name, 0);
        }
        String[] ofTakerAndNumber = {"ofTaker", "think", "brace", "drain", "holds", "best", "friend", "gets", "as"};
        for (String name : ofTakerAndNumber) {
            Scene.refused(FourVault::new, FourVault.UNKNOWN, name, 0, 0);
        }
        Scene.refused(FourVault::new, FourVault.UNKNOWN, "together", 0, 1, 0);
        Scene.refused(FourVault::new, FourVault.UNKNOWN, "reading", 0, 0, 0);
        Scene.refused(FourVault::new, FourVault.UNKNOWN, "odds", 0, 0, 0);
        Check.sentence("1: No VAULT: no GOODS");
        Scene.refused(FourVault::new, FourVault.UNKNOWN, "depth", 0);
        Check.sentence("1: No VAULT: no PLACES");
        Scene.refused(FourVault::new, FourVault.UNKNOWN, "gloom", 0);
        Scene.refused(FourVault::new, FourVault.UNKNOWN, "glooms", 0);
        Scene.refused(FourVault::new, FourVault.UNKNOWN, "hush", 0, 0);
        Check.sentence("1: No VAULT: how many, no READINGS");
        for (int what = 0; what < 4; what++) {
            Scene.asks(FourVault::new, 0, "many", what);
        }
        Scene.asks(FourVault::new, 0, "back", 0);
        Scene.refused(FourVault::new, FourVault.OUTSIDE, "back", 1);
        Check.sentence("1: SHEETS have nothing");
        for (int k = 0; k < 4; k++) {
            Scene.asks(FourVault::new, 0, "lose", k);
            Scene.faults(FourVault::new, Scene.NULL, "put", k, 0, 0);
            Scene.faults(FourVault::new, Scene.NULL, "cell", k, 0, 0);
            Scene.faults(FourVault::new, Scene.NULL, "vault", k, 0, 0, 0);
            Scene.faults(FourVault::new, Scene.NULL, "night", k, 0, 0, 0, 0);
            Scene.faults(FourVault::new, Scene.NULL, "copy", k, 0, k, 0, 0);
        }
        Check.sentence("1: TRACE 0 at first, fault() 0 ahead of any");
        Check.due("trace", new FourVault().trace(), 0);
        Check.due("fault", new FourVault().fault(), 0);
    }

    /** Two TAKERS, one GOOD, three PLACES, behind a VAULT that had all there can be. */
    private static FourVault lesser() {
        FourVault x = Scene.whole();
        Check.due("a lesser text", Check.vault(x, "v213;t250;s180/4"), 2);
        x.lose(3);
        return x;
    }

    private static void ofALesserVault() {
        Check.sentence("UNKNOWN: no such TAKER, though an earlier VAULT had one");
        for (String name : new String[] {"tell", "ring", "minds", "kinds"}) {
            Scene.bounds(VaultEdgesTest::lesser, FourVault.UNKNOWN, 0, 0, 1, name, 0);
        }
        String[] ofTakerAndNumber = {"ofTaker", "think", "brace", "drain", "holds", "best", "friend", "gets", "as"};
        for (String name : ofTakerAndNumber) {
            Scene.bounds(VaultEdgesTest::lesser, FourVault.UNKNOWN, 0, 0, 1, name, 0, 0);
        }
        Scene.bounds(VaultEdgesTest::lesser, FourVault.UNKNOWN, 0, 0, 1, "reading", 0, 0, 0);
        Scene.bounds(VaultEdgesTest::lesser, FourVault.UNKNOWN, 0, 0, 1, "odds", 0, 0, 0);
        Scene.refused(VaultEdgesTest::lesser, FourVault.UNKNOWN, "together", 0, 2, 0);
        Scene.refused(VaultEdgesTest::lesser, FourVault.UNKNOWN, "together", 2, 1, 0);
        Scene.refused(VaultEdgesTest::lesser, FourVault.UNKNOWN, "night", 1, 1, 0, 3, 1);
        Scene.asks(VaultEdgesTest::lesser, FourVault.NONE, "night", 1, 1, 0, 2, 12);
        Check.sentence("UNKNOWN: no such GOOD, though an earlier VAULT had one");
        Scene.bounds(VaultEdgesTest::lesser, FourVault.UNKNOWN, 0, 0, 0, "depth", 0);
        Scene.asks(VaultEdgesTest::lesser, 1, "gets", 0, 0);
        Scene.asks(VaultEdgesTest::lesser, 4, "send", 0, -1);
        Check.sentence("UNKNOWN: no such PLACE, though an earlier VAULT had one");
        Scene.bounds(VaultEdgesTest::lesser, FourVault.UNKNOWN, 0, 0, 2, "gloom", 0);
        Scene.bounds(VaultEdgesTest::lesser, FourVault.UNKNOWN, 0, 0, 2, "glooms", 0);
        Scene.bounds(VaultEdgesTest::lesser, FourVault.UNKNOWN, 0, 0, 2, "hush", 0, 0);
        Scene.asks(VaultEdgesTest::lesser, 2, "drain", 0, 3);
    }

    private static void vaultRefusals() {
        Check.sentence("2: UNKNOWN: SHEETS 0 .. 3");
        for (int k : new int[] {-1, 4, MIN, MAX}) {
            Scene.refused(Scene::whole, FourVault.UNKNOWN, "vault", k, 0, 0, 38);
        }
        FourVault x = Scene.whole();
        Check.row(x, 3, 0, Check.codes("v0;t000/"));
        Check.due("sheet 0", x.vault(0, 0, 0, 38), 5);
        Check.due("sheet 3", x.vault(3, 0, 0, 8), 1);
        Check.sentence("2: OUTSIDE: lane 0 .. 2");
        for (int lane : new int[] {-1, 3, MIN, MAX}) {
            Scene.refused(Scene::whole, FourVault.OUTSIDE, "vault", 0, lane, 0, 38);
        }
        Check.sentence("2: UNKNOWN ahead of OUTSIDE, these ahead of FAULTS");
        Scene.refused(Scene::whole, FourVault.UNKNOWN, "vault", 4, 3, -1, -1);
        Scene.refused(Scene::whole, FourVault.UNKNOWN, "vault", -1, 0, 0, 0);
        Scene.refused(Scene::whole, FourVault.OUTSIDE, "vault", 3, 3, -1, -1);
        Scene.refused(Scene::whole, FourVault.OUTSIDE, "vault", 0, -1, 0, -1);
        Scene.refused(Scene::whole, FourVault.OUTSIDE, "vault", 0, 3, 39, 0);
    }

    private static void vaultFaults() {
        Check.sentence("2: CAST, of each LANE as another");
        Scene.faults(Scene::whole, Scene.CAST, "vault", 0, 1, 0, 38);
        Scene.faults(Scene::whole, Scene.CAST, "vault", 0, 2, 0, 38);
        Scene.faults(Scene::whole, Scene.CAST, "vault", 1, 0, 0, 6);
        Scene.faults(Scene::whole, Scene.CAST, "vault", 1, 2, 0, 6);
        Scene.faults(Scene::whole, Scene.CAST, "vault", 2, 0, 0, 3);
        Scene.faults(Scene::whole, Scene.CAST, "vault", 2, 1, 0, 3);
        Check.sentence("2: CAST ahead of SIZE and INDEX");
        Scene.faults(Scene::whole, Scene.CAST, "vault", 0, 1, 0, -1);
        Scene.faults(Scene::whole, Scene.CAST, "vault", 0, 1, -1, 0);
        Scene.faults(Scene::whole, Scene.CAST, "vault", 0, 1, 0, 39);
        Check.sentence("2: nothing is no CAST: NULL, of every LANE");
        for (int lane = 0; lane < 3; lane++) {
            Scene.faults(Scene::whole, Scene.NULL, "vault", 3, lane, 0, 0);
        }
        Check.sentence("2: NULL ahead of SIZE and INDEX");
        Scene.faults(Scene::whole, Scene.NULL, "vault", 3, 0, 0, -1);
        Scene.faults(Scene::whole, Scene.NULL, "vault", 3, 0, -1, 0);
        Scene.faults(Scene::whole, Scene.NULL, "vault", 3, 0, 1, 1);
        Check.sentence("2: SIZE: n is below 0");
        Scene.faults(Scene::whole, Scene.SIZE, "vault", 0, 0, 0, -1);
        Scene.faults(Scene::whole, Scene.SIZE, "vault", 0, 0, 38, -1);
        Scene.faults(Scene::whole, Scene.SIZE, "vault", 0, 0, 0, MIN);
        Check.sentence("2: SIZE ahead of INDEX");
        Scene.faults(Scene::whole, Scene.SIZE, "vault", 0, 0, -1, -1);
        Scene.faults(Scene::whole, Scene.SIZE, "vault", 0, 0, 39, -1);
        Scene.faults(Scene::whole, Scene.SIZE, "vault", 0, 0, MAX, MIN);
    }

    private static FourVault withEmptyRow() {
        FourVault x = Scene.whole();
        x.sheet(1, 1, 0);
        return x;
    }

    private static void vaultIndex() {
        Check.sentence("2: INDEX: not all cells are there");
        int[][] beyond = {{0, 39}, {1, 38}, {37, 2}, {38, 1}, {-1, 1}, {-1, 38}, {39, 1}, {MAX, 1}, {MAX, MAX}, {1, MAX},
            {38, MAX}, {MIN, 1}, {MIN, MAX}};
        for (int[] cells : beyond) {
            Scene.faults(Scene::whole, Scene.INDEX, "vault", 0, 0, cells[0], cells[1]);
        }
        Check.sentence("2: all cells are there");
        Check.due("0, 38", Scene.whole().vault(0, 0, 0, 38), 5);
        Scene.asks(Scene::whole, -100, "vault", 0, 0, 37, 1);
        Scene.asks(Scene::whole, -100, "vault", 0, 0, 1, 37);
        Check.sentence("2: INDEX also where i is not 0 .. how many there are, if none of them is taken");
        Scene.faults(Scene::whole, Scene.INDEX, "vault", 0, 0, -1, 0);
        Scene.faults(Scene::whole, Scene.INDEX, "vault", 0, 0, 39, 0);
        Scene.faults(Scene::whole, Scene.INDEX, "vault", 0, 0, MIN, 0);
        Scene.faults(Scene::whole, Scene.INDEX, "vault", 0, 0, MAX, 0);
        Scene.asks(Scene::whole, -100, "vault", 0, 0, 0, 0);
        Scene.asks(Scene::whole, -100, "vault", 0, 0, 38, 0);
        Scene.faults(VaultEdgesTest::withEmptyRow, Scene.INDEX, "vault", 1, 1, -1, 0);
        Scene.faults(VaultEdgesTest::withEmptyRow, Scene.INDEX, "vault", 1, 1, 1, 0);
        Scene.faults(VaultEdgesTest::withEmptyRow, Scene.INDEX, "vault", 1, 1, 0, 1);
        Scene.asks(VaultEdgesTest::withEmptyRow, -100, "vault", 1, 1, 0, 0);
    }

    private static void ofTaker() {
        Check.sentence("3: UNKNOWN: no such TAKER");
        Scene.bounds(Scene::whole, FourVault.UNKNOWN, 0, 0, 4, "ofTaker", 0, 0);
        Check.sentence("3: OUTSIDE: what 0 .. 2");
        Scene.bounds(Scene::whole, FourVault.OUTSIDE, 1, 0, 2, "ofTaker", 4, 0);
        Check.sentence("3: UNKNOWN ahead of OUTSIDE");
        Scene.refused(Scene::whole, FourVault.UNKNOWN, "ofTaker", 5, 3);
        Scene.refused(Scene::whole, FourVault.UNKNOWN, "ofTaker", -1, -1);
        Check.sentence("3: 0 kind, 1 NERVE, 2 MIND");
        int[][] takers = {{0, 25, 5}, {1, 17, 1}, {2, 30, 2}, {0, 99, 0}, {1, 0, 7}};
        for (int a = 0; a < 5; a++) {
            for (int what = 0; what < 3; what++) {
                Scene.asks(Scene::whole, takers[a][what], "ofTaker", a, what);
            }
        }
    }

    private static void depthAndGloom() {
        Check.sentence("4: UNKNOWN: no such GOOD");
        Scene.bounds(Scene::whole, FourVault.UNKNOWN, 0, 0, 4, "depth", 0);
        Scene.asks(Scene::whole, 1, "depth", 0);
        Scene.asks(Scene::whole, 2, "depth", 4);
        Scene.refused(() -> Check.with("v123;t000;t000/"), FourVault.UNKNOWN, "depth", 0);
        Scene.refused(() -> Check.with("v123;t000;t000/9"), FourVault.UNKNOWN, "depth", 1);
        Check.sentence("5: UNKNOWN: no such PLACE (the row does not come again here)");
        Scene.bounds(Scene::whole, FourVault.UNKNOWN, 0, 0, 5, "gloom", 0);
        Scene.asks(Scene::whole, 3, "gloom", 0);
        Scene.asks(Scene::whole, 2, "gloom", 5);
        Scene.refused(() -> Check.with("v1;t000;t000/99"), FourVault.UNKNOWN, "gloom", 1);
    }

    /** v is taken at both ends, tells what was, and is told then; nothing else is changed by the way back. */
    private static void changes(String name, int k, int was, int most) {
        FourVault x = Scene.whole();
        Check.due(name + " to the most", Scene.ask(x, name, k, most), was);
        Check.due(name + " to the least", Scene.ask(x, name, k, 0), most);
        Check.due(name + " to what it was", Scene.ask(x, name, k, was), 0);
        Check.due(name + " to what it is", Scene.ask(x, name, k, was), was);
        Check.same(name + " leaves all else", Scene.seen(x), Scene.seen(Scene.whole()));
    }

    private static void hush() {
        Check.sentence("6: UNKNOWN: no such PLACE");
        Scene.bounds(Scene::whole, FourVault.UNKNOWN, 0, 0, 5, "hush", 0, 0);
        Check.sentence("6: OUTSIDE: v (0 .. 9)");
        Scene.bounds(Scene::whole, FourVault.OUTSIDE, 1, 0, 9, "hush", 5, 0);
        Check.sentence("6: UNKNOWN ahead of OUTSIDE");
        Scene.refused(Scene::whole, FourVault.UNKNOWN, "hush", 6, 10);
        Scene.refused(Scene::whole, FourVault.UNKNOWN, "hush", -1, -1);
        Check.sentence("6: GLOOM of a PLACE becomes v: what it was");
        changes("hush", 0, 3, 9);
        changes("hush", 5, 2, 9);
        FourVault x = Scene.whole();
        x.hush(5, 9);
        Check.due("told then", x.gloom(5), 9);
        Check.due("of no other", x.gloom(4), 5);
        Check.due("and in its minutes", x.drain(3, 11), 9);
    }

    private static void think() {
        Check.sentence("7: UNKNOWN: no such TAKER");
        Scene.bounds(Scene::whole, FourVault.UNKNOWN, 0, 0, 4, "think", 0, 0);
        Check.sentence("7: OUTSIDE: v (0 .. 9)");
        Scene.bounds(Scene::whole, FourVault.OUTSIDE, 1, 0, 9, "think", 4, 0);
        Check.sentence("7: UNKNOWN ahead of OUTSIDE");
        Scene.refused(Scene::whole, FourVault.UNKNOWN, "think", 5, 10);
        Scene.refused(Scene::whole, FourVault.UNKNOWN, "think", -1, -1);
        Check.sentence("7: MIND of a TAKER becomes v: what it was");
        changes("think", 0, 5, 9);
        changes("think", 4, 7, 9);
        FourVault x = Scene.whole();
        x.think(4, 9);
        Check.due("told then", x.ofTaker(4, 2), 9);
        Check.due("its nerve is not", x.ofTaker(4, 1), 0);
        Check.due("of no other", x.ofTaker(3, 2), 0);
    }

    private static void brace() {
        Check.sentence("8: UNKNOWN: no such TAKER");
        Scene.bounds(Scene::whole, FourVault.UNKNOWN, 0, 0, 4, "brace", 0, 0);
        Check.sentence("8: OUTSIDE: v (0 .. 99)");
        Scene.bounds(Scene::whole, FourVault.OUTSIDE, 1, 0, 99, "brace", 4, 0);
        Check.sentence("8: UNKNOWN ahead of OUTSIDE");
        Scene.refused(Scene::whole, FourVault.UNKNOWN, "brace", 5, 100);
        Scene.refused(Scene::whole, FourVault.UNKNOWN, "brace", -1, -1);
        Check.sentence("8: NERVE of a TAKER becomes v: what it was");
        changes("brace", 0, 25, 99);
        changes("brace", 2, 30, 99);
        FourVault x = Scene.whole();
        x.brace(4, 99);
        Check.due("told then", x.ofTaker(4, 1), 99);
        Check.due("its mind is not", x.ofTaker(4, 2), 7);
        Check.due("of no other", x.ofTaker(2, 1), 30);
    }

    private static void drainBounds() {
        Check.sentence("9: UNKNOWN: no such TAKER");
        Scene.bounds(Scene::whole, FourVault.UNKNOWN, 0, 0, 4, "drain", 0, 0);
        Check.sentence("9: OUTSIDE: MINUTE (0 .. 99)");
        Scene.bounds(Scene::whole, FourVault.OUTSIDE, 1, 0, 99, "drain", 4, 0);
        Check.sentence("9: UNKNOWN ahead of OUTSIDE");
        Scene.refused(Scene::whole, FourVault.UNKNOWN, "drain", 5, 100);
        Scene.refused(Scene::whole, FourVault.UNKNOWN, "drain", -1, -1);
    }

    /** Drains of minute 0, by every gloom and mind. */
    private static void drainByKind() {
        String[] told = {"9: from a TAKER GLOOM and MIND together", "9: from a SINGER 1 less (0 at least)",
            "9: from a WIDOW half of what it is from a TAKER (cut)"};
        for (int kind = 0; kind < 3; kind++) {
            Check.sentence(told[kind]);
            FourVault x = Check.with("v0;" + "tsw".charAt(kind) + "000/");
            for (int gloom = 0; gloom < 10; gloom++) {
                x.hush(0, gloom);
                for (int mind = 0; mind < 10; mind++) {
                    x.think(0, mind);
                    int both = gloom + mind;
                    int want = kind == 0 ? both : kind == 1 ? Math.max(0, both - 1) : both / 2;
                    Check.due("gloom " + gloom + " mind " + mind, x.drain(0, 0), want);
                }
            }
        }
    }

    private static void gloomBehindTheLastPlace() {
        String all = "493817";
        for (int places = 1; places <= 6; places++) {
            Check.sentence("9: behind the last PLACE the first one comes again, and so on: of " + places);
            FourVault x = Check.with("v" + all.substring(0, places) + ";t000/");
            for (int m = 0; m < 100; m++) {
                Check.due("minute " + m, x.drain(0, m), all.charAt(m % places) - '0');
            }
        }
    }
}
