/** Promises 23 to 33: sheets, what is told of takers, trace, fault, many. */
public final class SheetsTest {
    public static void main(String[] args) {
        sheet();
        lose();
        put();
        lanes();
        cell();
        copy();
        copyFaults();
        tellAndRing();
        traceWraps();
        as();
        fault();
        many();
        Check.end("SheetsTest");
    }

    private static void due(FourVault x, String call, long got, long want, int fault) {
        Check.due(call, got, want);
        Check.due(call + " fault", x.fault(), fault);
    }

    private static void sheet() {
        FourVault x = new FourVault();
        due(x, "sheet of 60", x.sheet(0, 0, 60), 1, 0);
        due(x, "sheet of 0", x.sheet(3, 2, 0), 1, 0);
        Check.due("its last cell", x.cell(0, 59, 0), 0);
        Check.due("no cell", x.cell(3, 0, 2), Check.LOST);
        due(x, "sheet -1", x.sheet(-1, 3, 61), FourVault.UNKNOWN, 0);
        due(x, "sheet 4", x.sheet(4, 0, -1), FourVault.UNKNOWN, 0);
        due(x, "lane -1", x.sheet(0, -1, -1), FourVault.OUTSIDE, 0);
        due(x, "lane 3", x.sheet(0, 3, 0), FourVault.OUTSIDE, 0);
        due(x, "61 cells", x.sheet(0, 0, 61), FourVault.OUTSIDE, 0);
        due(x, "most cells", x.sheet(0, 0, Integer.MAX_VALUE), FourVault.OUTSIDE, 0);
        due(x, "-1 cells", x.sheet(0, 0, -1), -14, 4);
        due(x, "least cells", x.sheet(0, 0, Integer.MIN_VALUE), -14, 4);
        x.put(0, 59, 7);
        Check.due("refused sheets left it", x.cell(0, 59, 0), 7);
        x.sheet(0, 0, 60);
        Check.due("a new row is 0", x.cell(0, 59, 0), 0);
        x.sheet(0, 2, 1);
        Check.due("of another lane", x.cell(0, 0, 2), 0);
        Check.due("shorter", x.put(0, 1, 1), -13);
    }

    private static void lose() {
        FourVault x = new FourVault();
        Check.due("lose -1", x.lose(-1), FourVault.UNKNOWN);
        Check.due("lose 4", x.lose(4), FourVault.UNKNOWN);
        Check.due("lose nothing", x.lose(0), 0);
        x.sheet(0, 0, 0);
        x.sheet(1, 0, 1);
        Check.due("lose a row of none", x.lose(0), 1);
        Check.due("lose again", x.lose(0), 0);
        Check.due("nothing is there", x.put(0, 0, 0), -11);
        Check.due("the other stays", x.put(1, 0, 0), 1);
        x.put(1, 1, 0);
        x.lose(1);
        x.lose(4);
        Check.due("lose names no fault", x.fault(), 3);
    }

    private static void put() {
        FourVault x = new FourVault();
        due(x, "put -1", x.put(-1, 0, 0), FourVault.UNKNOWN, 0);
        due(x, "put 4", x.put(4, -1, 0), FourVault.UNKNOWN, 0);
        due(x, "put into nothing", x.put(0, -1, 0), -11, 1);
        x.sheet(0, 2, 2);
        due(x, "put at -1", x.put(0, -1, 0), -13, 3);
        due(x, "put at 2", x.put(0, 2, 0), -13, 3);
        due(x, "put at most", x.put(0, Integer.MAX_VALUE, 0), -13, 3);
        due(x, "put", x.put(0, 1, 5), 1, 0);
        Check.due("it is there", x.cell(0, 1, 2), 5);
        Check.due("not beside it", x.cell(0, 0, 2), 0);
    }

    private static void lanes() {
        int[] values = {0, 127, 128, 255, 256, -128, -129, 32767, 32768, 65536, -32769, Integer.MIN_VALUE,
            Integer.MAX_VALUE};
        FourVault x = new FourVault();
        for (int lane = 0; lane < 3; lane++) {
            x.sheet(lane, lane, 1);
            for (int v : values) {
                Check.due("put " + v, x.put(lane, 0, v), 1);
                long cut = lane == 0 ? (byte) v : lane == 1 ? (short) v : v;
                Check.due("cell of " + v + " in lane " + lane, x.cell(lane, 0, lane), cut);
            }
        }
        x.sheet(0, 0, 1);
        x.put(0, 0, 200);
        Check.due("a byte of 200", x.cell(0, 0, 0), -56);
        x.sheet(0, 1, 1);
        x.put(0, 0, 40000);
        Check.due("a short of 40000", x.cell(0, 0, 1), -25536);
    }

    private static void cell() {
        FourVault x = new FourVault();
        x.sheet(0, 1, 2);
        due(x, "cell of -1", x.cell(-1, 0, 3), Check.LOST, 0);
        due(x, "cell of 4", x.cell(4, 0, 0), Check.LOST, 0);
        due(x, "lane -1", x.cell(0, -1, -1), Check.LOST, 0);
        due(x, "lane 3", x.cell(1, 0, 3), Check.LOST, 0);
        due(x, "cast", x.cell(0, -1, 0), Check.LOST, 2);
        due(x, "cast 2", x.cell(0, 0, 2), Check.LOST, 2);
        due(x, "nothing is no cast", x.cell(1, -1, 0), Check.LOST, 1);
        due(x, "at -1", x.cell(0, -1, 1), Check.LOST, 3);
        due(x, "at 2", x.cell(0, 2, 1), Check.LOST, 3);
        due(x, "at 1", x.cell(0, 1, 1), 0, 0);
    }

    private static void rowIs(FourVault x, int k, int lane, int... cells) {
        for (int i = 0; i < cells.length; i++) {
            Check.due("cell " + i + " of " + k, x.cell(k, i, lane), cells[i]);
        }
        Check.due("no more of " + k, x.cell(k, cells.length, lane), Check.LOST);
    }

    private static void copy() {
        FourVault x = new FourVault();
        Check.row(x, 0, 1, 1, 2, 3, 4, 5);
        Check.row(x, 1, 1, 9, 9, 9);
        due(x, "copy", x.copy(0, 2, 1, 1, 2), 2, 0);
        rowIs(x, 1, 1, 9, 3, 4);
        rowIs(x, 0, 1, 1, 2, 3, 4, 5);
        due(x, "on, the same", x.copy(0, 0, 0, 1, 4), 4, 0);
        rowIs(x, 0, 1, 1, 1, 2, 3, 4);
        due(x, "back, the same", x.copy(0, 1, 0, 0, 4), 4, 0);
        rowIs(x, 0, 1, 1, 2, 3, 4, 4);
        due(x, "onto itself", x.copy(0, 0, 0, 0, 5), 5, 0);
        rowIs(x, 0, 1, 1, 2, 3, 4, 4);
        due(x, "none at the ends", x.copy(0, 5, 1, 3, 0), 0, 0);
    }

    private static void copyFaults() {
        FourVault x = new FourVault();
        Check.row(x, 0, 1, 1, 2, 3);
        Check.row(x, 1, 1, 4, 5);
        Check.row(x, 2, 0, 6, 7);
        due(x, "copy of -1", x.copy(-1, 0, 0, 0, 0), FourVault.UNKNOWN, 0);
        due(x, "copy to 4", x.copy(3, -1, 4, 0, 0), FourVault.UNKNOWN, 0);
        due(x, "nothing there", x.copy(3, -1, 0, 0, 0), -11, 1);
        due(x, "to nothing", x.copy(2, -1, 3, 0, 0), -11, 1);
        due(x, "unlike lanes", x.copy(0, -1, 2, 0, -1), -12, 2);
        int[][] beyond = {{-1, 0, 0}, {0, -1, 0}, {0, 0, -1}, {4, 0, 0}, {0, 3, 0}, {2, 0, 2}, {0, 1, 2}, {0, 0, 3},
            {Integer.MAX_VALUE, 0, 1}, {0, Integer.MAX_VALUE, 1}, {1, 1, Integer.MAX_VALUE}, {0, 0, Integer.MIN_VALUE}};
        for (int[] c : beyond) {
            due(x, "copy " + c[0] + " " + c[1] + " " + c[2], x.copy(0, c[0], 1, c[1], c[2]), -13, 3);
        }
        rowIs(x, 0, 1, 1, 2, 3);
        rowIs(x, 1, 1, 4, 5);
        due(x, "all that fits", x.copy(0, 1, 1, 0, 2), 2, 0);
        rowIs(x, 1, 1, 2, 3);
    }

    private static int after(int trace, int... numbers) {
        for (int number : numbers) {
            trace = 31 * trace + number;
        }
        return trace;
    }

    private static void tellAndRing() {
        FourVault x = Check.with(Check.GANG);
        Check.due("a taker's", x.tell(0), 25);
        int trace = after(0, 1);
        Check.due("trace", x.trace(), trace);
        Check.due("a singer's", x.tell(1), 118);
        trace = after(trace, 2, 1);
        Check.due("trace", x.trace(), trace);
        Check.due("a widow's", x.tell(2), 160);
        trace = after(trace, 3, 2, 1, 1);
        Check.due("trace", x.trace(), trace);
        Check.due("a taker's ring", x.ring(3), 3);
        trace = after(trace, 4);
        Check.due("a singer's ring", x.ring(4), 4);
        trace = after(trace, 4);
        Check.due("a widow's ring", x.ring(2), 40);
        trace = after(trace, 5);
        Check.due("trace", x.trace(), trace);
        int[] nobody = {-1, 5, Integer.MIN_VALUE, Integer.MAX_VALUE};
        for (int a : nobody) {
            Check.due("tell " + a, x.tell(a), FourVault.UNKNOWN);
            Check.due("ring " + a, x.ring(a), FourVault.UNKNOWN);
        }
        Check.due("they leave nothing", x.trace(), trace);
        x.brace(2, 99);
        Check.due("by the nerve that is", x.tell(2), 298);
    }

    private static void traceWraps() {
        FourVault x = Check.with(Check.GANG);
        int trace = 0;
        for (int k = 0; k < 40; k++) {
            x.tell(2);
            trace = after(trace, 3, 2, 1, 1);
            Check.due("trace " + k, x.trace(), trace);
        }
    }

    private static void as() {
        FourVault x = Check.with("v0;t000;s000;w000/");
        for (int a = 0; a < 3; a++) {
            for (int kind = 0; kind < 3; kind++) {
                boolean is = kind <= a;
                due(x, "as " + a + " " + kind, x.as(a, kind), is ? 1 : -12, is ? 0 : 2);
            }
            due(x, "as -1", x.as(a, -1), FourVault.OUTSIDE, 0);
            due(x, "as 3", x.as(a, 3), FourVault.OUTSIDE, 0);
        }
        x.as(0, 1);
        due(x, "nobody as 3", x.as(3, 3), FourVault.UNKNOWN, 0);
        due(x, "nobody as 0", x.as(-1, 0), FourVault.UNKNOWN, 0);
    }

    private static void fault() {
        FourVault x = Check.with(Check.GANG);
        x.put(3, -1, 0);
        x.ofTaker(9, 9);
        x.holds(9, 9);
        x.send(99, 99);
        x.tell(9);
        x.lose(9);
        x.many(9);
        x.odds(9, 9, 9);
        x.back(9);
        x.reading(0, 0, 0);
        x.trace();
        Check.due("calls that name none leave it", x.fault(), 3);
        Check.due("and asking does", x.fault(), 3);
        x.cell(9, 0, 0);
        Check.due("a refusal of one that does", x.fault(), 0);
        x.put(3, -1, 0);
        x.put(3, 0, 0);
        Check.due("one that comes to none", x.fault(), 0);
        x.put(3, -1, 0);
        x.vault(3, 0, 0, 1);
        Check.due("a wrong text comes to none", x.fault(), 0);
    }

    private static void many() {
        FourVault x = Check.with("v123;t000;s000/1234");
        x.reading(0, 0, 0);
        int[] due = {2, 4, 3, 1};
        for (int what = 0; what < 4; what++) {
            Check.due("many " + what, x.many(what), due[what]);
        }
        Check.due("many -1", x.many(-1), FourVault.OUTSIDE);
        Check.due("many 4", x.many(4), FourVault.OUTSIDE);
        Check.due("many of none", new FourVault().many(4), FourVault.OUTSIDE);
    }
}
