import java.util.function.Supplier;

/** Promises 23 to 27, sentence by sentence: sheets, their cells, copies. */
public final class SheetsEdgesTest {
    private static final int MIN = Integer.MIN_VALUE, MAX = Integer.MAX_VALUE;

    public static void main(String[] args) {
        sheetBounds();
        sheetNew();
        lose();
        putBounds();
        putCuts();
        cellBounds();
        cellFaults();
        copyUnknown();
        copyNullAndCast();
        copyIndex();
        copyNone();
        copyAsTheyWere();
        Check.end("SheetsEdgesTest");
    }

    private static Supplier<FourVault> row(int lane, int... cells) {
        return () -> {
            FourVault x = new FourVault();
            Check.row(x, 0, lane, cells);
            return x;
        };
    }

    private static void sheetBounds() {
        Check.sentence("23: UNKNOWN: SHEETS 0 .. 3");
        Scene.bounds(Scene::whole, FourVault.UNKNOWN, 0, 0, 3, "sheet", 0, 0, 1);
        Check.sentence("23: OUTSIDE: lane (0 .. 2)");
        Scene.bounds(Scene::whole, FourVault.OUTSIDE, 1, 0, 2, "sheet", 0, 0, 1);
        Check.sentence("23: OUTSIDE: n above 60");
        Scene.refused(Scene::whole, FourVault.OUTSIDE, "sheet", 0, 0, 61);
        Scene.refused(Scene::whole, FourVault.OUTSIDE, "sheet", 3, 2, MAX);
        Check.due("60", Scene.whole().sheet(0, 0, 60), 1);
        Check.sentence("23: SIZE: a length below 0");
        Scene.faults(Scene::whole, Scene.SIZE, "sheet", 0, 0, -1);
        Scene.faults(Scene::whole, Scene.SIZE, "sheet", 3, 2, MIN);
        Check.due("0", Scene.whole().sheet(0, 0, 0), 1);
        Check.sentence("23: UNKNOWN ahead of OUTSIDE, OUTSIDE ahead of SIZE");
        Scene.refused(Scene::whole, FourVault.UNKNOWN, "sheet", 4, 3, 0);
        Scene.refused(Scene::whole, FourVault.UNKNOWN, "sheet", -1, 0, 61);
        Scene.refused(Scene::whole, FourVault.UNKNOWN, "sheet", 4, 0, -1);
        Scene.refused(Scene::whole, FourVault.OUTSIDE, "sheet", 0, 3, -1);
        Scene.refused(Scene::whole, FourVault.OUTSIDE, "sheet", 0, -1, -1);
    }

    private static void sheetNew() {
        Check.sentence("23: a new row of 0 .. 60 numbers, 0 at first");
        for (int lane = 0; lane < 3; lane++) {
            for (int n : new int[] {0, 1, 59, 60}) {
                FourVault x = Scene.whole();
                Check.due("sheet of " + n, x.sheet(0, lane, n), 1);
                Check.due("fault", x.fault(), 0);
                Check.same("the row", Scene.seenRow(x, 0), " lane " + lane + " of" + " 0".repeat(n));
            }
        }
        Check.sentence("23: other SHEETS are left");
        FourVault x = Scene.whole();
        x.sheet(0, 2, 5);
        for (int k = 1; k < 4; k++) {
            Check.same("sheet " + k, Scene.seenRow(x, k), Scene.seenRow(Scene.whole(), k));
        }
        Check.sentence("23: the VAULT by a TEXT stays when its SHEET gets a new row");
        Check.due("takers", x.many(0), 5);
        Check.due("nerve", x.ofTaker(3, 1), 99);
    }

    private static void lose() {
        Check.sentence("24: UNKNOWN: SHEETS 0 .. 3");
        for (int k : new int[] {-1, 4, MIN, MAX}) {
            Scene.refused(Scene::whole, FourVault.UNKNOWN, "lose", k);
        }
        Check.sentence("24: a SHEET has nothing: 1");
        for (int k = 0; k < 3; k++) {
            FourVault x = Scene.whole();
            Check.due("lose " + k, x.lose(k), 1);
            for (int other = 0; other < 4; other++) {
                String due = other == k ? " nothing" : Scene.seenRow(Scene.whole(), other);
                Check.same("sheet " + other, Scene.seenRow(x, other), due);
            }
        }
        Check.sentence("24: 0: it had nothing");
        Scene.asks(Scene::whole, 0, "lose", 3);
        FourVault x = Scene.whole();
        x.sheet(3, 0, 1);
        Check.due("lose 3", x.lose(3), 1);
        Check.due("again", x.lose(3), 0);
        Check.sentence("24: a row of no cells is not nothing");
        x.sheet(3, 0, 0);
        Check.due("lose 3", x.lose(3), 1);
        Check.sentence("24: the VAULT by a TEXT stays when its SHEET has nothing");
        FourVault y = Scene.whole();
        y.lose(0);
        Check.due("takers", y.many(0), 5);
        Check.sentence("24: lose names no FAULTS: fault() stays");
        y.put(1, 6, 0);
        y.lose(1);
        Check.due("fault", y.fault(), Scene.INDEX);
        y.lose(1);
        Check.due("fault", y.fault(), Scene.INDEX);
    }

    private static void putBounds() {
        Check.sentence("25: UNKNOWN: SHEETS 0 .. 3");
        for (int k : new int[] {-1, 4, MIN, MAX}) {
            Scene.refused(Scene::whole, FourVault.UNKNOWN, "put", k, 0, 1);
        }
        FourVault both = Scene.whole();
        both.sheet(3, 0, 1);
        Check.due("sheet 0", both.put(0, 0, 1), 1);
        Check.due("sheet 3", both.put(3, 0, 1), 1);
        Check.sentence("25: UNKNOWN ahead of FAULTS");
        Scene.refused(Scene::whole, FourVault.UNKNOWN, "put", 4, -1, 1);
        Check.sentence("25: NULL, ahead of INDEX");
        Scene.faults(Scene::whole, Scene.NULL, "put", 3, 0, 1);
        Scene.faults(Scene::whole, Scene.NULL, "put", 3, -1, 1);
        Check.sentence("25: INDEX");
        for (int i : new int[] {-1, 6, MIN, MAX}) {
            Scene.faults(Scene::whole, Scene.INDEX, "put", 1, i, 1);
        }
        Scene.faults(row(0), Scene.INDEX, "put", 0, 0, 1);
        Scene.faults(row(2), Scene.INDEX, "put", 0, -1, 1);
        Scene.faults(row(1, new int[60]), Scene.INDEX, "put", 0, 60, 1);
        Check.sentence("25: the first and the last cell");
        FourVault x = row(1, 4, 5, 6).get();
        Check.due("put 0", x.put(0, 0, 7), 1);
        Check.same("row", Scene.seenRow(x, 0), " lane 1 of 7 5 6");
        Check.due("put 2", x.put(0, 2, 8), 1);
        Check.same("row", Scene.seenRow(x, 0), " lane 1 of 7 5 8");
        FourVault y = row(0, new int[60]).get();
        Check.due("put 59", y.put(0, 59, 1), 1);
        Check.due("cell 59", y.cell(0, 59, 0), 1);
    }

    private static void cut(int lane, int v, int want) {
        FourVault x = row(lane, 5, 5, 5).get();
        Check.due("put " + v, x.put(0, 1, v), 1);
        Check.due("fault", x.fault(), 0);
        Check.same("row", Scene.seenRow(x, 0), " lane " + lane + " of 5 " + want + " 5");
    }

    private static void putCuts() {
        Check.sentence("25: what comes to a cell is cut to bytes");
        int[][] bytes = {{0, 0}, {127, 127}, {128, -128}, {-128, -128}, {-129, 127}, {255, -1}, {256, 0}, {-256, 0},
            {32767, -1}, {65536, 0}, {MAX, -1}, {MIN, 0}};
        for (int[] one : bytes) {
            cut(0, one[0], one[1]);
        }
        Check.sentence("25: what comes to a cell is cut to shorts");
        int[][] shorts = {{128, 128}, {-129, -129}, {32767, 32767}, {32768, -32768}, {-32768, -32768}, {-32769, 32767},
            {65535, -1}, {65536, 0}, {MAX, -1}, {MIN, 0}};
        for (int[] one : shorts) {
            cut(1, one[0], one[1]);
        }
        Check.sentence("25: ints are as they are");
        for (int v : new int[] {0, 128, 32768, -32769, 65536, MAX, MIN}) {
            cut(2, v, v);
        }
    }

    private static void cellBounds() {
        Check.sentence("26: LOST: UNKNOWN: SHEETS 0 .. 3 (fault() 0)");
        for (int k : new int[] {-1, 4, MIN, MAX}) {
            Scene.refused(Scene::whole, 0, "cell", k, 0, 0);
        }
        FourVault both = Scene.whole();
        both.sheet(3, 0, 1);
        Check.due("sheet 0", both.cell(0, 0, 0), 118);
        Check.due("sheet 3", both.cell(3, 0, 0), 0);
        Check.sentence("26: LOST: OUTSIDE: lane (0 .. 2) (fault() 0)");
        for (int lane : new int[] {-1, 3, MIN, MAX}) {
            Scene.refused(Scene::whole, 0, "cell", 0, 0, lane);
        }
        Check.sentence("26: refusals ahead of FAULTS");
        Scene.refused(Scene::whole, 0, "cell", 4, -1, 0);
        Scene.refused(Scene::whole, 0, "cell", 3, 0, 3);
        Scene.refused(Scene::whole, 0, "cell", 0, -1, -1);
        Check.sentence("26: the first and the last cell");
        Scene.asks(Scene::whole, 'v', "cell", 0, 0, 0);
        Scene.asks(Scene::whole, '2', "cell", 0, 37, 0);
        Scene.asks(Scene::whole, 59, "cell", 1, 5, 1);
        Scene.asks(Scene::whole, 70000, "cell", 2, 0, 2);
        Scene.asks(Scene::whole, -7, "cell", 2, 1, 2);
    }

    private static void cellFaults() {
        Check.sentence("26: CAST, of each LANE as another");
        for (int k = 0; k < 3; k++) {
            for (int lane = 0; lane < 3; lane++) {
                if (lane != k) {
                    Scene.faults(Scene::whole, Scene.CAST, "cell", k, 0, lane);
                }
            }
        }
        Check.sentence("26: CAST ahead of INDEX");
        Scene.faults(Scene::whole, Scene.CAST, "cell", 0, -1, 1);
        Scene.faults(Scene::whole, Scene.CAST, "cell", 1, 6, 2);
        Scene.faults(row(0), Scene.CAST, "cell", 0, 0, 1);
        Check.sentence("26: nothing is no CAST: NULL, ahead of INDEX");
        for (int lane = 0; lane < 3; lane++) {
            Scene.faults(Scene::whole, Scene.NULL, "cell", 3, 0, lane);
            Scene.faults(Scene::whole, Scene.NULL, "cell", 3, -1, lane);
        }
        Check.sentence("26: INDEX");
        for (int i : new int[] {-1, 6, MIN, MAX}) {
            Scene.faults(Scene::whole, Scene.INDEX, "cell", 1, i, 1);
        }
        Scene.faults(row(0), Scene.INDEX, "cell", 0, 0, 0);
        Scene.faults(row(2), Scene.INDEX, "cell", 0, -1, 2);
        Scene.faults(row(2, new int[60]), Scene.INDEX, "cell", 0, 60, 2);
        Scene.asks(row(2, new int[60]), 0, "cell", 0, 59, 2);
        Check.sentence("26: a cell that has the least int is no LOST");
        Scene.asks(row(2, MIN), MIN, "cell", 0, 0, 2);
    }

    private static void copyUnknown() {
        Check.sentence("27: UNKNOWN: the first SHEET");
        for (int k : new int[] {-1, 4, MIN, MAX}) {
            Scene.refused(Scene::whole, FourVault.UNKNOWN, "copy", k, 0, 0, 0, 1);
        }
        Check.sentence("27: UNKNOWN: the other SHEET");
        for (int k : new int[] {-1, 4, MIN, MAX}) {
            Scene.refused(Scene::whole, FourVault.UNKNOWN, "copy", 0, 0, k, 0, 1);
        }
        Check.sentence("27: UNKNOWN ahead of FAULTS");
        Scene.refused(Scene::whole, FourVault.UNKNOWN, "copy", 3, 0, 4, 0, 0);
        Scene.refused(Scene::whole, FourVault.UNKNOWN, "copy", 4, 0, 3, 0, 0);
        Scene.refused(Scene::whole, FourVault.UNKNOWN, "copy", 0, -1, -1, -1, -1);
        Check.sentence("27: from and to the first and the last SHEET");
        FourVault x = row(1, 4, 5).get();
        x.sheet(3, 1, 2);
        Check.due("0 to 3", x.copy(0, 0, 3, 0, 2), 2);
        Check.same("sheet 3", Scene.seenRow(x, 3), " lane 1 of 4 5");
        Check.due("3 to 0", x.copy(3, 1, 0, 0, 1), 1);
        Check.same("sheet 0", Scene.seenRow(x, 0), " lane 1 of 5 5");
    }

    private static void copyNullAndCast() {
        Check.sentence("27: NULL (the first)");
        Scene.faults(Scene::whole, Scene.NULL, "copy", 3, 0, 0, 0, 0);
        Scene.faults(Scene::whole, Scene.NULL, "copy", 3, -1, 1, -1, -1);
        Check.sentence("27: NULL (the other)");
        Scene.faults(Scene::whole, Scene.NULL, "copy", 0, 0, 3, 0, 0);
        Scene.faults(Scene::whole, Scene.NULL, "copy", 1, -1, 3, -1, -1);
        Check.sentence("27: NULL (both)");
        Scene.faults(Scene::whole, Scene.NULL, "copy", 3, 0, 3, 0, 0);
        Check.sentence("27: CAST (unlike LANES), of none of the cells, too");
        for (int k = 0; k < 3; k++) {
            for (int other = 0; other < 3; other++) {
                if (other != k) {
                    Scene.faults(Scene::whole, Scene.CAST, "copy", k, 0, other, 0, 1);
                    Scene.faults(Scene::whole, Scene.CAST, "copy", k, 0, other, 0, 0);
                }
            }
        }
        Check.sentence("27: CAST ahead of INDEX");
        Scene.faults(Scene::whole, Scene.CAST, "copy", 0, -1, 1, 0, 0);
        Scene.faults(Scene::whole, Scene.CAST, "copy", 0, 0, 1, -1, 0);
        Scene.faults(Scene::whole, Scene.CAST, "copy", 0, 0, 1, 0, -1);
        Scene.faults(Scene::whole, Scene.CAST, "copy", 0, 0, 1, 0, 60);
    }

    /** Sheet 0 has five shorts, sheet 1 three. */
    private static FourVault two() {
        FourVault x = row(1, 1, 2, 3, 4, 5).get();
        Check.row(x, 1, 1, 7, 8, 9);
        return x;
    }

    private static void copyIndex() {
        Check.sentence("27: INDEX: i below 0 or beyond");
        int[][] ofI = {{-1, 1}, {5, 1}, {3, 3}, {4, 2}, {6, 1}, {MAX, 1}, {MIN, 1}, {-1, 2}};
        for (int[] one : ofI) {
            Scene.faults(SheetsEdgesTest::two, Scene.INDEX, "copy", 0, one[0], 1, 0, one[1]);
        }
        Check.sentence("27: INDEX: j below 0 or beyond");
        int[][] ofJ = {{-1, 1}, {3, 1}, {2, 2}, {1, 3}, {0, 4}, {4, 1}, {MAX, 1}, {MIN, 1}};
        for (int[] one : ofJ) {
            Scene.faults(SheetsEdgesTest::two, Scene.INDEX, "copy", 0, 0, 1, one[0], one[1]);
        }
        Check.sentence("27: INDEX: n below 0 (no SIZE)");
        Scene.faults(SheetsEdgesTest::two, Scene.INDEX, "copy", 0, 0, 1, 0, -1);
        Scene.faults(SheetsEdgesTest::two, Scene.INDEX, "copy", 0, 5, 1, 3, -1);
        Scene.faults(SheetsEdgesTest::two, Scene.INDEX, "copy", 0, 0, 1, 0, MIN);
        Check.sentence("27: INDEX: n beyond");
        Scene.faults(SheetsEdgesTest::two, Scene.INDEX, "copy", 0, 0, 0, 0, 6);
        Scene.faults(SheetsEdgesTest::two, Scene.INDEX, "copy", 1, 0, 0, 0, 4);
        Scene.faults(SheetsEdgesTest::two, Scene.INDEX, "copy", 0, 1, 0, 1, MAX);
        Scene.faults(SheetsEdgesTest::two, Scene.INDEX, "copy", 0, MAX, 0, MAX, MAX);
        Check.sentence("27: all that is there");
        copied(" 1 2 3 4 5", " 1 2 3", 3, 0, 0, 1, 0);
        copied(" 1 2 3 4 5", " 3 4 5", 3, 0, 2, 1, 0);
        copied(" 1 2 3 4 5", " 7 8 5", 1, 0, 4, 1, 2);
        copied(" 1 2 7 8 9", " 7 8 9", 3, 1, 0, 0, 2);
    }

    private static void copied(String first, String second, int n, int k, int i, int other, int j) {
        FourVault x = two();
        Check.due("copy", x.copy(k, i, other, j, n), n);
        Check.due("fault", x.fault(), 0);
        Check.same("sheet 0", Scene.seenRow(x, 0), " lane 1 of" + first);
        Check.same("sheet 1", Scene.seenRow(x, 1), " lane 1 of" + second);
    }

    private static void copyNone() {
        Check.sentence("27: INDEX also where i is not 0 .. how many there are, if none of them is taken");
        for (int i : new int[] {-1, 6, MIN, MAX}) {
            Scene.faults(SheetsEdgesTest::two, Scene.INDEX, "copy", 0, i, 1, 0, 0);
        }
        for (int j : new int[] {-1, 4, MIN, MAX}) {
            Scene.faults(SheetsEdgesTest::two, Scene.INDEX, "copy", 0, 0, 1, j, 0);
        }
        Check.sentence("27: none of the cells, at both ends");
        Scene.asks(SheetsEdgesTest::two, 0, "copy", 0, 0, 1, 0, 0);
        Scene.asks(SheetsEdgesTest::two, 0, "copy", 0, 5, 1, 3, 0);
        Scene.asks(SheetsEdgesTest::two, 0, "copy", 0, 5, 0, 0, 0);
        Check.sentence("27: of rows without cells");
        Scene.asks(row(2), 0, "copy", 0, 0, 0, 0, 0);
        Scene.faults(row(2), Scene.INDEX, "copy", 0, 1, 0, 0, 0);
        Scene.faults(row(2), Scene.INDEX, "copy", 0, 0, 0, 1, 0);
        Scene.faults(row(2), Scene.INDEX, "copy", 0, 0, 0, 0, 1);
    }

    private static void copyAsTheyWere() {
        Check.sentence("27: perhaps the same SHEET: as they were");
        copied(" 1 1 2 3 4", " 7 8 9", 4, 0, 0, 0, 1);
        copied(" 2 3 4 5 5", " 7 8 9", 4, 0, 1, 0, 0);
        copied(" 1 2 1 2 3", " 7 8 9", 3, 0, 0, 0, 2);
        copied(" 3 4 5 4 5", " 7 8 9", 3, 0, 2, 0, 0);
        copied(" 1 2 3 4 5", " 7 8 9", 5, 0, 0, 0, 0);
        Check.sentence("27: of bytes and ints, too");
        for (int lane = 0; lane < 3; lane += 2) {
            FourVault x = row(lane, MIN, MAX, -1).get();
            String cells = lane == 0 ? " 0 0 -1" : " " + MIN + " " + MIN + " " + MAX;
            Check.due("copy", x.copy(0, 0, 0, 1, 2), 2);
            Check.same("row", Scene.seenRow(x, 0), " lane " + lane + " of" + cells);
        }
        Check.sentence("27: a copy is not the row itself");
        FourVault x = two();
        x.copy(0, 0, 1, 0, 3);
        x.put(0, 0, 9);
        Check.same("sheet 1", Scene.seenRow(x, 1), " lane 1 of 1 2 3");
        Check.sentence("27: 60 cells");
        FourVault y = new FourVault();
        y.sheet(0, 0, 60);
        y.sheet(1, 0, 60);
        y.put(0, 59, 3);
        Check.due("copy of 60", y.copy(0, 0, 1, 0, 60), 60);
        Check.due("the last", y.cell(1, 59, 0), 3);
        Check.due("copy of 61", y.copy(0, 0, 1, 0, 61), -13);
    }
}
