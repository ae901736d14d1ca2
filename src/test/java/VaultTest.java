/** Promises 1 to 9: a new object, the text, what is asked and changed of its parts. */
public final class VaultTest {
    public static void main(String[] args) {
        newObject();
        textsTaken();
        firstFaults();
        wrongTextChangesNothing();
        textMakesAllAnew();
        textInsideARow();
        vaultRefusals();
        partsAndTheirEdges();
        changes();
        drains();
        Check.end("VaultTest");
    }

    private static void newObject() {
        FourVault x = new FourVault();
        for (int what = 0; what <= 3; what++) {
            Check.due("new many " + what, x.many(what), 0);
        }
        Check.due("new ofTaker", x.ofTaker(0, 0), FourVault.UNKNOWN);
        Check.due("new depth", x.depth(0), FourVault.UNKNOWN);
        Check.due("new gloom", x.gloom(0), FourVault.UNKNOWN);
        Check.due("new trace", x.trace(), 0);
        Check.due("new fault", x.fault(), 0);
        for (int k = 0; k < 4; k++) {
            Check.due("new lose " + k, x.lose(k), 0);
            Check.due("new put " + k, x.put(k, 0, 1), -11);
        }
    }

    private static void textsTaken() {
        Check.due("least text", Check.vault(new FourVault(), "v0;t000/"), 1);
        FourVault x = new FourVault();
        Check.due("most text", Check.vault(x, "v012389;t999;s010;w507;t000;s111/12389"), 5);
        Check.due("takers", x.many(0), 5);
        Check.due("goods", x.many(1), 5);
        Check.due("places", x.many(2), 6);
        Check.due("readings", x.many(3), 0);
        int[] glooms = {0, 1, 2, 3, 8, 9};
        for (int k = 0; k < glooms.length; k++) {
            Check.due("gloom " + k, x.gloom(k), glooms[k]);
        }
        int[] depths = {1, 2, 3, 8, 9};
        for (int g = 0; g < depths.length; g++) {
            Check.due("depth " + g, x.depth(g), depths[g]);
        }
        int[][] takers = {{0, 99, 9}, {1, 1, 0}, {2, 50, 7}, {0, 0, 0}, {1, 11, 1}};
        for (int a = 0; a < takers.length; a++) {
            for (int what = 0; what < 3; what++) {
                Check.due("ofTaker " + a + " " + what, x.ofTaker(a, what), takers[a][what]);
            }
        }
        for (int lane = 0; lane < 3; lane++) {
            FourVault y = new FourVault();
            Check.row(y, 0, lane, Check.codes("v12;s345/"));
            Check.due("text of lane " + lane, y.vault(0, lane, 0, 9), 1);
            Check.due("its nerve", y.ofTaker(0, 1), 34);
        }
    }

    private static void wrongAt(String text, int place) {
        Check.due("text '" + text + "'", Check.vault(new FourVault(), text), -100 - place);
    }

    private static void firstFaults() {
        String whole = "v31;t204;s999/25";
        for (int n = 0; n <= whole.indexOf('/'); n++) {
            wrongAt(whole.substring(0, n), n);
        }
        String[] texts = {
            "x31;t204/", "V31;t204/", "v;t204/", "v/", "vv", "va;t204/", "v31/", "v31t204/", "v1234567;t204/",
            "v123456;t204;", "v1:t204/", "v31;T204/", "v31;x204/", "v31;;", "v31;2", "v31;ta04/", "v31;t2x4/",
            "v31;t20x/", "v31;t20/", "v31;t2045/", "v31;t204x", "v31;t204v", "v31;t204;/",
            "v1;t000;t000;t000;t000;t000;t000/", "v31;t204/0", "v31;t204/10", "v31;t204/123456", "v31;t204//",
            "v31;t204/1;", "v31;t204/1x", "v31;t204/123451", "v31;t204/ ",
        };
        int[] places = {
            0, 0, 1, 1, 1, 1, 3, 3, 7,
            13, 2, 4, 4, 4, 4, 5, 6,
            7, 7, 8, 8, 8, 9,
            27, 9, 10, 14, 9,
            10, 10, 14, 9,
        };
        for (int k = 0; k < texts.length; k++) {
            wrongAt(texts[k], places[k]);
        }
        FourVault x = new FourVault();
        Check.row(x, 0, 2, 118, 48 + 256, 59);
        Check.due("a code beyond a byte is no digit", x.vault(0, 2, 0, 3), -101);
        Check.row(x, 0, 0, 118, 48 + 256, 59);
        Check.due("a lane of bytes has cut it", x.vault(0, 0, 0, 3), -103);
        Check.due("no machine fault", x.fault(), 0);
    }

    private static void wrongTextChangesNothing() {
        FourVault x = Check.with(Check.GANG);
        x.reading(0, 0, 3);
        x.hush(1, 7);
        Check.due("wrong text", Check.vault(x, "v9;w999;w999/99999x"), -118);
        Check.due("takers stay", x.many(0), 5);
        Check.due("goods stay", x.many(1), 4);
        Check.due("places stay", x.many(2), 4);
        Check.due("readings stay", x.many(3), 1);
        Check.due("gloom stays", x.gloom(1), 7);
        Check.due("kind stays", x.ofTaker(0, 0), 0);
        Check.due("nerve stays", x.ofTaker(0, 1), 25);
        Check.due("depth stays", x.depth(3), 9);
    }

    private static void textMakesAllAnew() {
        FourVault x = Check.with(Check.GANG);
        x.reading(0, 0, 3);
        x.think(0, 9);
        x.brace(0, 1);
        x.hush(0, 0);
        Check.due("second text", Check.vault(x, "v7;s123/"), 1);
        Check.due("no readings", x.many(3), 0);
        Check.due("no goods", x.many(1), 0);
        Check.due("one place", x.many(2), 1);
        Check.due("gloom", x.gloom(0), 7);
        Check.due("no place 1", x.gloom(1), FourVault.UNKNOWN);
        Check.due("no taker 1", x.ofTaker(1, 0), FourVault.UNKNOWN);
        Check.due("no good 0", x.depth(0), FourVault.UNKNOWN);
        Check.due("third text", Check.vault(x, Check.GANG), 5);
        Check.due("first again", x.ofTaker(0, 2), 4);
        Check.due("nerve again", x.ofTaker(0, 1), 25);
        Check.due("gloom again", x.gloom(0), 3);
        x.tell(0);
        Check.vault(x, Check.GANG);
        Check.due("a text leaves TRACE", x.trace(), 1);
    }

    private static void textInsideARow() {
        FourVault x = new FourVault();
        Check.row(x, 1, 1, Check.codes("zzv5;t119/3zz"));
        Check.due("from 2 on", x.vault(1, 1, 2, 9), 1);
        Check.due("its depth", x.depth(0), 3);
        Check.due("one less: no goods", x.vault(1, 1, 2, 8), 1);
        Check.due("none", x.many(1), 0);
        Check.due("one more: a fault within the text", x.vault(1, 1, 2, 10), -109);
        Check.due("the fault is told from the text's begin", x.vault(1, 1, 1, 12), -100);
        Check.due("no cells", x.vault(1, 1, 13, 0), -100);
        Check.due("no cells, fault", x.fault(), 0);
    }

    private static void refused(FourVault x, int sheet, int lane, int i, int n, int want, int fault) {
        String call = "vault(" + sheet + ", " + lane + ", " + i + ", " + n + ")";
        x.put(0, -1, 0);
        Check.due(call, x.vault(sheet, lane, i, n), want);
        Check.due(call + " fault", x.fault(), fault);
        Check.due(call + " leaves the takers", x.many(0), 5);
    }

    private static void vaultRefusals() {
        FourVault x = Check.with(Check.GANG);
        Check.row(x, 0, 1, Check.codes("v5;t119/3"));
        refused(x, -1, 3, -1, -1, FourVault.UNKNOWN, 0);
        refused(x, 4, 0, 0, 0, FourVault.UNKNOWN, 0);
        refused(x, 0, -1, -1, -1, FourVault.OUTSIDE, 0);
        refused(x, 2, 3, 0, 0, FourVault.OUTSIDE, 0);
        refused(x, 0, 0, -1, -1, -12, 2);
        refused(x, 0, 2, 0, 9, -12, 2);
        refused(x, 2, 0, -1, -1, -11, 1);
        refused(x, 0, 1, -1, -1, -14, 4);
        refused(x, 0, 1, 0, Integer.MIN_VALUE, -14, 4);
        refused(x, 0, 1, 0, 10, -13, 3);
        refused(x, 0, 1, 1, 9, -13, 3);
        refused(x, 0, 1, -1, 0, -13, 3);
        refused(x, 0, 1, 10, 0, -13, 3);
        refused(x, 0, 1, Integer.MAX_VALUE, Integer.MAX_VALUE, -13, 3);
        refused(x, 0, 1, 1, Integer.MAX_VALUE, -13, 3);
        refused(x, 0, 1, Integer.MIN_VALUE, 1, -13, 3);
        refused(x, 0, 1, 9, 0, -100, 0);
    }

    private static void partsAndTheirEdges() {
        FourVault x = Check.with(Check.GANG);
        int[] noTaker = {-1, 5, Integer.MIN_VALUE, Integer.MAX_VALUE};
        for (int a : noTaker) {
            Check.due("ofTaker " + a, x.ofTaker(a, 3), FourVault.UNKNOWN);
            Check.due("think " + a, x.think(a, 10), FourVault.UNKNOWN);
            Check.due("brace " + a, x.brace(a, 100), FourVault.UNKNOWN);
            Check.due("drain " + a, x.drain(a, 100), FourVault.UNKNOWN);
        }
        int[] noGoodOrPlace = {-1, 4, Integer.MIN_VALUE, Integer.MAX_VALUE};
        for (int k : noGoodOrPlace) {
            Check.due("depth " + k, x.depth(k), FourVault.UNKNOWN);
            Check.due("gloom " + k, x.gloom(k), FourVault.UNKNOWN);
            Check.due("hush " + k, x.hush(k, 10), FourVault.UNKNOWN);
        }
        Check.due("ofTaker what -1", x.ofTaker(0, -1), FourVault.OUTSIDE);
        Check.due("ofTaker what 3", x.ofTaker(4, 3), FourVault.OUTSIDE);
        Check.due("drain -1", x.drain(0, -1), FourVault.OUTSIDE);
        Check.due("drain 100", x.drain(0, 100), FourVault.OUTSIDE);
    }

    private static void changes() {
        FourVault x = Check.with(Check.GANG);
        Check.due("hush -1", x.hush(0, -1), FourVault.OUTSIDE);
        Check.due("hush 10", x.hush(0, 10), FourVault.OUTSIDE);
        Check.due("not hushed", x.gloom(0), 3);
        Check.due("hush", x.hush(0, 9), 3);
        Check.due("hush again", x.hush(0, 0), 9);
        Check.due("hushed", x.gloom(0), 0);
        Check.due("others not", x.gloom(2), 5);
        Check.due("think -1", x.think(1, -1), FourVault.OUTSIDE);
        Check.due("think 10", x.think(1, 10), FourVault.OUTSIDE);
        Check.due("think", x.think(1, 9), 1);
        Check.due("think again", x.think(1, 0), 9);
        Check.due("mind", x.ofTaker(1, 2), 0);
        Check.due("another's mind", x.ofTaker(0, 2), 4);
        Check.due("brace -1", x.brace(2, -1), FourVault.OUTSIDE);
        Check.due("brace 100", x.brace(2, 100), FourVault.OUTSIDE);
        Check.due("brace", x.brace(2, 99), 30);
        Check.due("brace again", x.brace(2, 0), 99);
        Check.due("nerve", x.ofTaker(2, 1), 0);
        Check.due("another's nerve", x.ofTaker(3, 1), 99);
    }

    private static void drains() {
        String text = "v0159;t990;s990;w990;t993;s993/";
        int[][] due = {{0, 1, 5, 9}, {0, 0, 4, 8}, {0, 0, 2, 4}, {3, 4, 8, 12}, {2, 3, 7, 11}};
        for (int a = 0; a < due.length; a++) {
            FourVault x = Check.with(text);
            for (int m = 0; m < 100; m++) {
                Check.due("drain " + a + " " + m, x.drain(a, m), due[a][m % 4]);
            }
        }
        FourVault x = Check.with(text);
        x.think(2, 4);
        Check.due("a widow's half is of gloom and mind together", x.drain(2, 1), 2);
        Check.due("not less one first", x.drain(2, 0), 2);
        FourVault y = Check.with("v8;w009/");
        Check.due("cut", y.drain(0, 99), 8);
    }
}
