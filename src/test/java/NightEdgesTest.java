import java.util.function.Supplier;

/** Promise 14, sentence by sentence: nights that are told, the first that can't, refusals, FAULTS. */
public final class NightEdgesTest {
    private static final int MIN = Integer.MIN_VALUE, MAX = Integer.MAX_VALUE;
    private static final int[] WHATS = {0, 1, 2, 3, 10, 11, 12, 13, 14};
    /** Takers who hold 3, 6, 0 and 40 minutes, whenever they go in; a fifth who holds 1. */
    private static final String EVEN = "v2;t060;t120;t010;w500;t020/";

    public static void main(String[] args) {
        refusals();
        refusalsInOrder();
        faults();
        index();
        noVault();
        cellsThatAreNone();
        cellsPairByPair();
        onlyCellsOfTheNight();
        minuteLessThanTheOneAhead();
        notComeOutYet();
        theFirstOfSeveral();
        lessThanAHundred();
        allMinutes();
        latest();
        atOnce();
        minutesOfATaker();
        noSuchTaker();
        nobody();
        twentyPairs();
        oneNightBehindAnother();
        Check.end("NightEdgesTest");
    }

    private static void refusals() {
        Check.sentence("14: UNKNOWN: SHEET");
        for (int k : new int[] {-1, 4, MIN, MAX}) {
            Scene.refused(Scene::whole, FourVault.UNKNOWN, "night", k, 1, 0, 3, 0);
        }
        Check.sentence("14: OUTSIDE: lane");
        for (int lane : new int[] {-1, 3, MIN, MAX}) {
            Scene.refused(Scene::whole, FourVault.OUTSIDE, "night", 1, lane, 0, 3, 0);
        }
        Check.sentence("14: OUTSIDE: n (0 .. 20)");
        Scene.bounds(NightEdgesTest::longRow, FourVault.OUTSIDE, 3, 0, 20, "night", 1, 1, 0, 0, 0);
        Check.sentence("14: OUTSIDE: what (0 .. 3, 10 .. 14)");
        Scene.bounds(Scene::whole, FourVault.OUTSIDE, 4, 0, 14, "night", 1, 1, 0, 3, 0);
        for (int what : new int[] {4, 5, 6, 7, 8, 9}) {
            Scene.refused(Scene::whole, FourVault.OUTSIDE, "night", 1, 1, 0, 3, what);
        }
        for (int what : WHATS) {
            Check.due("what " + what, Scene.whole().night(1, 1, 0, 0, what) == FourVault.OUTSIDE ? 1 : 0, 0);
        }
    }

    /** Sixty cells of 0: as a night of n pairs taker 0 goes in in minute 0 again and again. */
    private static FourVault longRow() {
        FourVault x = Scene.whole();
        x.sheet(1, 1, 60);
        x.brace(0, 0);
        return x;
    }

    private static void refusalsInOrder() {
        Check.sentence("14: UNKNOWN ahead of OUTSIDE");
        Scene.refused(Scene::whole, FourVault.UNKNOWN, "night", 4, 3, 0, 3, 0);
        Scene.refused(Scene::whole, FourVault.UNKNOWN, "night", 4, 1, 0, 21, 0);
        Scene.refused(Scene::whole, FourVault.UNKNOWN, "night", -1, 1, 0, 3, 4);
        Check.sentence("14: OUTSIDE ahead of FAULTS");
        Scene.refused(Scene::whole, FourVault.OUTSIDE, "night", 3, 3, 0, 0, 0);
        Scene.refused(Scene::whole, FourVault.OUTSIDE, "night", 3, 0, 0, 21, 0);
        Scene.refused(Scene::whole, FourVault.OUTSIDE, "night", 3, 0, 0, -1, 0);
        Scene.refused(Scene::whole, FourVault.OUTSIDE, "night", 3, 0, 0, 0, 4);
        Scene.refused(Scene::whole, FourVault.OUTSIDE, "night", 1, 0, 0, -1, 0);
        Scene.refused(Scene::whole, FourVault.OUTSIDE, "night", 1, 0, 0, 0, 15);
        Scene.refused(Scene::whole, FourVault.OUTSIDE, "night", 1, 1, -1, 0, 15);
        Check.sentence("14: OUTSIDE ahead of STATE");
        Scene.refused(Scene::bare, FourVault.OUTSIDE, "night", 1, 1, 0, 21, 0);
        Scene.refused(Scene::bare, FourVault.OUTSIDE, "night", 1, 1, 0, 0, 9);
        Scene.refused(Scene::bare, FourVault.OUTSIDE, "night", 1, 3, 0, 0, 0);
    }

    private static void faults() {
        Check.sentence("14: CAST, of each LANE as another");
        for (int k = 0; k < 3; k++) {
            for (int lane = 0; lane < 3; lane++) {
                if (lane != k) {
                    Scene.faults(Scene::whole, Scene.CAST, "night", k, lane, 0, 1, 0);
                    Scene.faults(Scene::whole, Scene.CAST, "night", k, lane, 0, 0, 0);
                }
            }
        }
        Check.sentence("14: CAST ahead of INDEX");
        Scene.faults(Scene::whole, Scene.CAST, "night", 1, 0, 0, 4, 0);
        Scene.faults(Scene::whole, Scene.CAST, "night", 1, 2, -1, 0, 0);
        Check.sentence("14: NULL, of every LANE, ahead of INDEX");
        for (int lane = 0; lane < 3; lane++) {
            Scene.faults(Scene::whole, Scene.NULL, "night", 3, lane, 0, 0, 0);
            Scene.faults(Scene::whole, Scene.NULL, "night", 3, lane, -1, 1, 0);
        }
        Check.sentence("14: FAULTS ahead of STATE");
        Scene.faults(Scene::bare, Scene.CAST, "night", 1, 0, 0, 0, 0);
        Scene.faults(Scene::bare, Scene.NULL, "night", 3, 0, 0, 0, 0);
        Scene.faults(Scene::bare, Scene.INDEX, "night", 1, 1, 0, 4, 0);
        Check.sentence("14: FAULTS ahead of cells that are none");
        Scene.faults(() -> night(1, 9, 99), Scene.INDEX, "night", 2, 1, 0, 2, 0);
        Scene.faults(() -> night(1, 9, 99), Scene.CAST, "night", 2, 0, 0, 1, 0);
    }

    private static void index() {
        Check.sentence("14: INDEX: 2 n cells of a SHEET from i on");
        int[][] beyond = {{0, 4}, {1, 3}, {2, 3}, {5, 1}, {6, 1}, {-1, 1}, {-1, 3}, {7, 1}, {MAX, 1}, {MIN, 20}, {MAX, 20}};
        for (int[] cells : beyond) {
            Scene.faults(Scene::whole, Scene.INDEX, "night", 1, 1, cells[0], cells[1], 0);
        }
        Check.sentence("14: all 2 n cells are there");
        Scene.asks(Scene::whole, FourVault.NONE, "night", 1, 1, 0, 3, 1);
        Scene.asks(Scene::whole, FourVault.NONE, "night", 1, 1, 2, 2, 1);
        Scene.asks(Scene::whole, FourVault.NONE, "night", 1, 1, 4, 1, 1);
        Check.sentence("14: INDEX also where i is not 0 .. how many there are, if none of them is taken");
        for (int i : new int[] {-1, 7, MIN, MAX}) {
            Scene.faults(Scene::whole, Scene.INDEX, "night", 1, 1, i, 0, 0);
        }
        Scene.asks(Scene::whole, 0, "night", 1, 1, 0, 0, 0);
        Scene.asks(Scene::whole, 0, "night", 1, 1, 6, 0, 0);
        Scene.faults(() -> night(1), Scene.INDEX, "night", 2, 1, 1, 0, 0);
        Scene.faults(() -> night(1), Scene.INDEX, "night", 2, 1, -1, 0, 0);
        Scene.asks(() -> night(1), 0, "night", 2, 1, 0, 0, 0);
    }

    private static void noVault() {
        Check.sentence("14: STATE: there is no VAULT");
        for (int what : WHATS) {
            Scene.refused(Scene::bare, FourVault.STATE, "night", 1, 1, 0, 3, what);
            Scene.refused(Scene::bare, FourVault.STATE, "night", 1, 1, 6, 0, what);
        }
        Check.sentence("14: STATE ahead of cells that are none");
        Scene.refused(Scene::bare, FourVault.STATE, "night", 2, 2, 0, 1, 0);
    }

    /** The even takers, with the pairs in sheet 2. */
    private static FourVault night(int lane, int... cells) {
        FourVault x = Check.with(EVEN);
        Check.row(x, 2, lane, cells);
        x.lose(3);
        return x;
    }

    private static void cellsThatAreNone() {
        Check.sentence("14: UNKNOWN: a cell is no TAKER");
        for (int a : new int[] {-1, 5, MIN, MAX, 1 << 16, 1 << 8}) {
            Scene.refused(() -> night(2, a, 0), FourVault.UNKNOWN, "night", 2, 2, 0, 1, 1);
        }
        Scene.asks(() -> night(2, 0, 0), FourVault.NONE, "night", 2, 2, 0, 1, 1);
        Scene.asks(() -> night(2, 4, 0), FourVault.NONE, "night", 2, 2, 0, 1, 1);
        Check.sentence("14: OUTSIDE: no MINUTE 0 .. 59");
        for (int m : new int[] {-1, 60, MIN, MAX, 1 << 16, 1 << 8}) {
            Scene.refused(() -> night(2, 0, m), FourVault.OUTSIDE, "night", 2, 2, 0, 1, 1);
        }
        Scene.asks(() -> night(2, 0, 0), 3, "night", 2, 2, 0, 1, 2);
        Scene.asks(() -> night(2, 0, 59), 62, "night", 2, 2, 0, 1, 2);
        Check.sentence("14: what comes to a cell was cut to its LANE");
        Scene.asks(() -> night(0, 256, 256 + 59), 62, "night", 2, 0, 0, 1, 2);
        Scene.asks(() -> night(1, 65536, 65536 + 59), 62, "night", 2, 1, 0, 1, 2);
        Scene.refused(() -> night(1, 256, 0), FourVault.UNKNOWN, "night", 2, 1, 0, 1, 2);
    }

    private static void cellsPairByPair() {
        Check.sentence("14: pair by pair UNKNOWN, OUTSIDE");
        Scene.refused(() -> night(1, 5, 60), FourVault.UNKNOWN, "night", 2, 1, 0, 1, 0);
        Scene.refused(() -> night(1, 0, 60, 5, 0), FourVault.OUTSIDE, "night", 2, 1, 0, 2, 0);
        Scene.refused(() -> night(1, 5, 0, 0, 60), FourVault.UNKNOWN, "night", 2, 1, 0, 2, 0);
        Scene.refused(() -> night(1, 0, 0, 1, 0, 5, 60), FourVault.UNKNOWN, "night", 2, 1, 0, 3, 0);
        Scene.refused(() -> night(1, 0, 0, 1, 0, 2, 60), FourVault.OUTSIDE, "night", 2, 1, 0, 3, 0);
        Check.sentence("14: refusals of any pair ahead of a FIRST WRONG");
        for (int what : WHATS) {
            Scene.refused(() -> night(1, 0, 9, 0, 0, 5, 0), FourVault.UNKNOWN, "night", 2, 1, 0, 3, what);
            Scene.refused(() -> night(1, 0, 9, 0, 0, 0, 60), FourVault.OUTSIDE, "night", 2, 1, 0, 3, what);
        }
    }

    private static void onlyCellsOfTheNight() {
        Check.sentence("14: cells from i on, 2 n: none ahead of them, none behind them");
        Supplier<FourVault> among = () -> night(1, -5, 99, 0, 7, 1, 8, -5, 99);
        Scene.asks(among, 9, "night", 2, 1, 2, 2, 0);
        Scene.asks(among, 3, "night", 2, 1, 2, 1, 0);
        Scene.asks(among, 0, "night", 2, 1, 2, 0, 0);
        Scene.refused(among, FourVault.UNKNOWN, "night", 2, 1, 2, 3, 0);
        Scene.refused(among, FourVault.UNKNOWN, "night", 2, 1, 0, 2, 0);
        Scene.asks(() -> night(1, -5, 4, 7), 1, "night", 2, 1, 1, 1, 0);
    }

    private static void told(int what, int want, int... cells) {
        Scene.asks(() -> night(1, cells), want, "night", 2, 1, 0, cells.length / 2, what);
    }

    private static void wrong(int place, int... cells) {
        told(1, place, cells);
        told(0, -100 - place, cells);
    }

    private static void right(int... cells) {
        told(1, FourVault.NONE, cells);
    }

    private static void minuteLessThanTheOneAhead() {
        Check.sentence("14: FIRST WRONG: whose MINUTE is less than that of the one ahead");
        wrong(1, 0, 9, 1, 8);
        right(0, 9, 1, 9);
        right(0, 9, 1, 10);
        wrong(1, 0, 1, 1, 0);
        wrong(1, 0, 59, 1, 0);
        wrong(2, 0, 9, 1, 20, 2, 19);
        right(0, 9, 1, 20, 2, 20);
    }

    private static void notComeOutYet() {
        Check.sentence("14: FIRST WRONG: who has not come out yet (not in the MINUTE in which one comes out)");
        wrong(1, 0, 9, 0, 9);
        wrong(1, 0, 9, 0, 10);
        wrong(1, 0, 9, 0, 11);
        right(0, 9, 0, 12);
        wrong(1, 3, 0, 3, 39);
        right(3, 0, 3, 40);
        right(4, 9, 4, 10);
        Check.sentence("14: FIRST WRONG: another one who is in is not wrong");
        right(0, 9, 1, 9, 2, 9, 3, 9, 4, 9);
        Check.sentence("14: FIRST WRONG: of one who went in several pairs ahead");
        wrong(3, 3, 0, 0, 1, 0, 4, 3, 20);
        wrong(2, 1, 5, 0, 6, 1, 10);
        right(1, 5, 0, 6, 1, 11);
        Check.sentence("14: who HOLDS nothing has come out in that MINUTE");
        right(2, 9, 2, 9, 2, 9);
        right(2, 59, 2, 59);
    }

    private static void theFirstOfSeveral() {
        Check.sentence("14: FIRST WRONG: the first of several");
        wrong(1, 0, 9, 1, 8, 2, 7, 3, 6);
        wrong(2, 0, 9, 1, 9, 0, 10, 2, 3);
        wrong(3, 3, 0, 0, 1, 1, 1, 0, 0, 3, 0);
        wrong(2, 0, 0, 1, 1, 0, 2, 1, 3);
    }

    private static void lessThanAHundred() {
        Check.sentence("14: of one with a FIRST WRONG: -100 less that (but what 1)");
        for (int what : WHATS) {
            told(what, what == 1 ? 1 : -101, 0, 9, 1, 8);
            told(what, what == 1 ? 2 : -102, 0, 9, 1, 9, 0, 9);
        }
        Check.sentence("14: of one with a FIRST WRONG: also for a TAKER who is not there");
        Supplier<FourVault> two = () -> {
            FourVault x = Check.with("v2;t060;t120/");
            Check.row(x, 2, 1, 0, 9, 1, 8);
            x.lose(3);
            return x;
        };
        Scene.asks(two, -101, "night", 2, 1, 0, 2, 12);
        Scene.asks(two, FourVault.NONE, "night", 2, 1, 0, 1, 12);
    }

    private static void allMinutes() {
        Check.sentence("14: all MINUTES that they HOLD together (what 0)");
        told(0, 3, 0, 5);
        told(0, 0, 2, 5);
        told(0, 40, 3, 59);
        told(0, 3 + 6 + 0 + 40 + 1, 0, 5, 1, 5, 2, 6, 3, 7, 4, 59);
        told(0, 3 + 3 + 3, 0, 5, 0, 8, 0, 11);
        Check.sentence("14: each goes in alone in that MINUTE: no half DRAINS");
        Scene.asks(Scene::whole, alone(0, 0) + alone(1, 2) + alone(2, 59), "night", 1, 1, 0, 3, 0);
    }

    private static int alone(int a, int m) {
        return Scene.whole().holds(a, m);
    }

    private static void latest() {
        Check.sentence("14: the latest MINUTE in which one comes out (2)");
        told(2, 8, 0, 5);
        told(2, 5, 2, 5);
        told(2, 0, 2, 0);
        told(2, 99, 3, 59);
        told(2, 42, 3, 2, 0, 20);
        told(2, 45, 3, 2, 1, 39);
        told(2, 9, 0, 5, 2, 9);
    }

    private static void atOnce() {
        Check.sentence("14: how many are in at once at most (3)");
        told(3, 1, 0, 5);
        told(3, 2, 0, 5, 1, 5);
        told(3, 4, 0, 9, 1, 9, 2, 9, 3, 9, 4, 9);
        told(3, 3, 3, 0, 0, 10, 1, 11, 4, 20);
        told(3, 2, 0, 5, 1, 7, 4, 20);
        Check.sentence("14: at once: the MINUTE in which one comes out is no more one in which one is in");
        told(3, 1, 0, 5, 1, 8);
        told(3, 2, 0, 5, 1, 7);
        told(3, 1, 0, 5, 0, 8, 0, 11);
        Check.sentence("14: at once: who HOLDS nothing is never in");
        told(3, 0, 2, 5);
        told(3, 1, 2, 5, 4, 5);
        told(3, 1, 4, 5, 2, 5);
        Check.sentence("14: at once: in MINUTES behind 59, too");
        told(3, 2, 3, 59, 4, 59);
    }

    private static void minutesOfATaker() {
        Check.sentence("14: MINUTES that TAKER a HOLDS in all (10 and a)");
        int[] cells = {0, 5, 1, 6, 2, 7, 0, 8, 4, 9, 0, 12, 4, 13};
        int[] due = {9, 6, 0, 0, 2};
        for (int a = 0; a < 5; a++) {
            told(10 + a, due[a], cells);
        }
    }

    private static void noSuchTaker() {
        Check.sentence("14: NONE: there is no such TAKER");
        for (int a = 1; a < 5; a++) {
            int takers = a;
            Supplier<FourVault> some = () -> {
                FourVault x = Check.with("v2" + ";t060".repeat(takers) + "/");
                Check.row(x, 2, 1, 0, 5);
                x.lose(3);
                return x;
            };
            Scene.asks(some, FourVault.NONE, "night", 2, 1, 0, 1, 10 + a);
            Scene.asks(some, FourVault.NONE, "night", 2, 1, 0, 0, 10 + a);
            Scene.asks(some, a == 1 ? 3 : 0, "night", 2, 1, 0, 1, 9 + a);
            Scene.asks(some, 0, "night", 2, 1, 0, 0, 9 + a);
        }
    }

    private static void nobody() {
        Check.sentence("14: NONE: nobody goes in (what 2)");
        told(2, FourVault.NONE);
        Check.sentence("14: n 0: no MINUTES, no FIRST WRONG, nobody in");
        told(0, 0);
        told(1, FourVault.NONE);
        told(3, 0);
        told(10, 0);
        told(14, 0);
    }

    private static void twentyPairs() {
        int[] cells = new int[40];
        for (int p = 0; p < 20; p++) {
            cells[2 * p] = p % 2 == 0 ? 0 : 4;
            cells[2 * p + 1] = 2 * p;
        }
        Check.sentence("14: a NIGHT of 20 pairs");
        told(0, 40, cells);
        told(1, FourVault.NONE, cells);
        told(2, 39, cells);
        told(3, 2, cells);
        told(10, 30, cells);
        told(14, 10, cells);
        Check.sentence("14: FIRST WRONG of the last of 20");
        cells[39] = 35;
        wrong(19, cells);
        cells[39] = 38;
        cells[38] = 0;
        wrong(19, cells);
    }

    private static void oneNightBehindAnother() {
        Check.sentence("14: a NIGHT has only its own pairs, not those of one asked ahead");
        int[] shorter = {3, FourVault.NONE, 8, 1, 3, 0, 0, 0, 0};
        int[] nobody = {0, FourVault.NONE, FourVault.NONE, 0, 0, 0, 0, 0, 0};
        for (int k = 0; k < WHATS.length; k++) {
            FourVault x = night(1, 0, 5, 1, 6, 3, 7, 1, 6);
            Check.due("a wrong one", x.night(2, 1, 0, 4, 1), 3);
            Check.due("one of three", x.night(2, 1, 0, 3, 0), 49);
            Check.due("one of one, what " + WHATS[k], x.night(2, 1, 0, 1, WHATS[k]), shorter[k]);
            Check.due("one of none, what " + WHATS[k], x.night(2, 1, 0, 0, WHATS[k]), nobody[k]);
        }
    }
}
