import java.util.function.Supplier;

/** Promises 15 and 16, sentence by sentence: goods that one gets, whom to send for which. */
public final class GoodsEdgesTest {
    private static final int NO = FourVault.NONE;

    public static void main(String[] args) {
        getsBounds();
        twiceItsDepth();
        getsAsASet();
        sendBounds();
        noVault();
        most();
        eachGoodByOne();
        firstAsARow();
        noneBehindAllGoods();
        goesForNone();
        noSuchTaker();
        Check.end("GoodsEdgesTest");
    }

    private static Supplier<FourVault> told(String text) {
        return () -> Check.with(text);
    }

    private static void getsBounds() {
        Check.sentence("15: UNKNOWN: no such TAKER");
        Scene.bounds(Scene::whole, FourVault.UNKNOWN, 0, 0, 4, "gets", 0, 0);
        Check.sentence("15: OUTSIDE: MINUTE m (0 .. 59)");
        Scene.bounds(Scene::whole, FourVault.OUTSIDE, 1, 0, 59, "gets", 4, 0);
        Check.sentence("15: UNKNOWN ahead of OUTSIDE");
        Scene.refused(Scene::whole, FourVault.UNKNOWN, "gets", 5, 60);
        Scene.refused(Scene::whole, FourVault.UNKNOWN, "gets", -1, -1);
    }

    private static void twiceItsDepth() {
        Check.sentence("15: GOT by who HOLDS twice its DEPTH at least");
        for (int depth = 1; depth <= 9; depth++) {
            FourVault x = Check.with("v1;t000/" + depth);
            x.brace(0, 2 * depth - 1);
            Check.due("one less than twice " + depth, x.gets(0, 0), 0);
            x.brace(0, 2 * depth);
            Check.due("twice " + depth, x.gets(0, 0), 1);
        }
        Check.sentence("15: who goes in in a MINUTE");
        Scene.asks(told("v1119;t030/1"), 1, "gets", 0, 0);
        Scene.asks(told("v1119;t030/1"), 1, "gets", 0, 57);
        Scene.asks(told("v1119;t030/1"), 0, "gets", 0, 58);
        Scene.asks(told("v1119;t030/1"), 0, "gets", 0, 59);
    }

    private static void getsAsASet() {
        Check.sentence("15: as a set (bit k for number k)");
        Scene.asks(told("v0;t000/99999"), 0b11111, "gets", 0, 0);
        Scene.asks(told("v1;t040/13231"), 0b10101, "gets", 0, 0);
        Scene.asks(told("v1;t010/11111"), 0, "gets", 0, 0);
        Scene.asks(told("v1;t020/29991"), 0b10000, "gets", 0, 0);
        Scene.asks(told("v0;t000/"), 0, "gets", 0, 0);
    }

    private static void sendBounds() {
        Check.sentence("16: OUTSIDE: MINUTE m (0 .. 59)");
        Scene.bounds(Scene::whole, FourVault.OUTSIDE, 0, 0, 59, "send", 0, -1);
        Scene.bounds(Scene::whole, FourVault.OUTSIDE, 0, 0, 59, "send", 0, 4);
        Check.sentence("16: OUTSIDE: k (-1, 0 .. 4)");
        Scene.bounds(Scene::whole, FourVault.OUTSIDE, 1, -1, 4, "send", 0, 0);
    }

    private static void noVault() {
        Check.sentence("16: STATE: there is no VAULT");
        for (int k = -1; k <= 4; k++) {
            Scene.refused(Scene::bare, FourVault.STATE, "send", 0, k);
            Scene.refused(Scene::bare, FourVault.STATE, "send", 59, k);
        }
        Check.sentence("16: OUTSIDE ahead of STATE");
        int[][] outside = {{-1, 0}, {60, 0}, {0, -2}, {0, 5}, {60, 5}};
        for (int[] call : outside) {
            Scene.refused(Scene::bare, FourVault.OUTSIDE, "send", call[0], call[1]);
        }
        Check.sentence("16: a VAULT without GOODS is one");
        sent("v0;t000/", 0, 0, NO);
    }

    private static void sent(String text, int m, int depths, int... goods) {
        Scene.asks(told(text), depths, "send", m, -1);
        for (int k = 0; k < 5; k++) {
            Scene.asks(told(text), k < goods.length ? goods[k] : NO, "send", m, k);
        }
    }

    private static void most() {
        Check.sentence("16: DEPTHS of all GOODS that are GOT are together the most");
        sent("v1;t990/19", 0, 9, 1);
        sent("v1;t990;t020/19", 0, 10, 1, 0);
        sent("v1;t020;t990/19", 0, 10, 0, 1);
        sent("v1;t990;t990/1234", 0, 7, 2, 3);
        sent("v1;t060;t080;t990/349", 0, 16, 0, 1, 2);
        sent("v1;t080;t060;t990/349", 0, 16, 1, 0, 2);
        sent("v0;t000;t000;t000;t000;t000/99999", 59, 45, 0, 1, 2, 3, 4);
        Check.sentence("16: SEND in a MINUTE");
        sent("v1119;t030/1", 57, 1, 0);
        sent("v1119;t030/1", 58, 0, NO);
    }

    private static void eachGoodByOne() {
        Check.sentence("16: each GOOD by one at most");
        sent("v0;t000;t000;t000/9", 0, 9, 0, NO, NO);
        sent("v0;t000;t000;t000;t000;t000/12", 0, 3, 0, 1, NO, NO, NO);
        Check.sentence("16: each TAKER for one GOOD at most");
        sent("v0;t000/11111", 0, 1, 0);
        sent("v0;t000;t000/11111", 0, 2, 0, 1);
    }

    private static void firstAsARow() {
        Check.sentence("16: of several the first as a row");
        sent("v0;t000;t000/55", 0, 10, 0, 1);
        sent("v0;t000;t000;t000/555", 0, 15, 0, 1, 2);
        sent("v0;t000;t000/252", 0, 7, 0, 1);
        sent("v0;t000;t000/525", 0, 10, 0, 2);
        sent("v1;t040;t990;t990/2112", 0, 5, 0, 1, 3);
        Check.sentence("16: of several the first as a row: the GOOD of TAKER 0 ahead of that of 1");
        sent("v1;t990;t060;t060/933", 0, 15, 0, 1, 2);
        sent("v1;t060;t060;t990/339", 0, 15, 0, 1, 2);
        sent("v1;t990;t020;t020/1121", 0, 4, 2, 0, 1);
    }

    private static void noneBehindAllGoods() {
        Check.sentence("16: none comes behind all GOODS");
        sent("v0;t000;t000/4", 0, 4, 0, NO);
        sent("v0;t000;t000;t000;t000;t000/4444", 0, 16, 0, 1, 2, 3, NO);
        sent("v1;t000;t990;t990/4", 0, 4, NO, 0, NO);
        sent("v1;t990;t000;t990/44", 0, 8, 0, NO, 1);
    }

    private static void goesForNone() {
        Check.sentence("16: NONE: that one goes for none");
        sent("v1;t010/1", 0, 0, NO);
        sent("v1;t010;t020/1", 0, 1, NO, 0);
        sent("v1;t020;t180;t180/99", 0, 18, NO, 0, 1);
        sent("v1;t170;t180/9", 0, 9, NO, 0);
        Check.sentence("16: none, though one could: others bring more");
        sent("v1;t020;t990/9", 0, 9, NO, 0);
    }

    private static void noSuchTaker() {
        for (int takers = 1; takers <= 5; takers++) {
            Check.sentence("16: NONE: there is no such TAKER, of " + takers);
            String text = "v0" + ";t000".repeat(takers) + "/11111";
            for (int k = 0; k < 5; k++) {
                Scene.asks(told(text), k < takers ? k : NO, "send", 0, k);
            }
        }
        Check.sentence("16: NONE: a TAKER of an earlier VAULT is not there");
        FourVault x = Check.with("v0;t000;t000;t000;t000;t000/99999");
        Check.due("of five", x.send(0, 4), 4);
        Check.due("vault", Check.vault(x, "v0;t000/99"), 1);
        Check.due("depths", x.send(0, -1), 9);
        Check.due("taker 0", x.send(0, 0), 0);
        Check.due("taker 1", x.send(0, 1), NO);
        Check.due("taker 4", x.send(0, 4), NO);
    }
}
