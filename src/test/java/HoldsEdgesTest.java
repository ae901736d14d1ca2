import java.util.function.Supplier;

/** Promises 10 to 13, sentence by sentence: how long one holds, when best, two together, friends. */
public final class HoldsEdgesTest {
    public static void main(String[] args) {
        holdsBounds();
        noMoreThanNerve();
        fortyAtMost();
        fromThatMinuteOn();
        bestBounds();
        bestOfSeveral();
        togetherBounds();
        togetherHalves();
        togetherTheLesser();
        friendBounds();
        friendOfSeveral();
        friendNone();
        Check.end("HoldsEdgesTest");
    }

    private static Supplier<FourVault> told(String text) {
        return () -> Check.with(text);
    }

    private static void holdsBounds() {
        Check.sentence("10: UNKNOWN: no such TAKER");
        Scene.bounds(Scene::whole, FourVault.UNKNOWN, 0, 0, 4, "holds", 0, 0);
        Check.sentence("10: OUTSIDE: MINUTE m (0 .. 59)");
        Scene.bounds(Scene::whole, FourVault.OUTSIDE, 1, 0, 59, "holds", 4, 0);
        Check.sentence("10: UNKNOWN ahead of OUTSIDE");
        Scene.refused(Scene::whole, FourVault.UNKNOWN, "holds", 5, 60);
        Scene.refused(Scene::whole, FourVault.UNKNOWN, "holds", -1, -1);
    }

    private static void noMoreThanNerve() {
        Check.sentence("10: DRAINS of all of them together are no more than NERVE");
        FourVault x = Check.with("v34;t000/");
        int[] sums = {0, 3, 7, 10, 14, 17, 21, 24, 28};
        for (int held = 1; held < sums.length; held++) {
            x.brace(0, sums[held]);
            Check.due("just so much as " + sums[held], x.holds(0, 0), held);
            x.brace(0, sums[held] - 1);
            Check.due("one less than " + sums[held], x.holds(0, 0), held - 1);
        }
        Check.sentence("10: the most: MINUTES of no DRAIN are held, too");
        Scene.asks(told("v0005;t040/"), 3, "holds", 0, 0);
        Scene.asks(told("v5000;t050/"), 4, "holds", 0, 0);
        Scene.asks(told("v1000;s000;t000/"), 40, "holds", 0, 0);
        Scene.asks(told("v1000;s000;t000/"), 0, "holds", 1, 0);
        Scene.asks(told("v1112;w000/"), 3, "holds", 0, 0);
    }

    private static void fortyAtMost() {
        Check.sentence("10: 40 at most");
        Scene.asks(told("v1;t380/"), 38, "holds", 0, 0);
        Scene.asks(told("v1;t390/"), 39, "holds", 0, 0);
        Scene.asks(told("v1;t400/"), 40, "holds", 0, 0);
        Scene.asks(told("v1;t410/"), 40, "holds", 0, 0);
        Scene.asks(told("v1;t990/"), 40, "holds", 0, 59);
        Scene.asks(told("v0;t000/"), 40, "holds", 0, 59);
        Scene.asks(told("v0;s991/"), 40, "holds", 0, 30);
    }

    private static void fromThatMinuteOn() {
        Check.sentence("10: from that one on; behind the last PLACE the first one comes again");
        FourVault x = Check.with("v90310;t090/");
        int[] due = {2, 4, 3, 2, 3};
        for (int m = 0; m < 60; m++) {
            Check.due("holds from " + m, x.holds(0, m), due[m % 5]);
        }
        Check.sentence("10: in the last MINUTE, and on behind it");
        Scene.asks(told("v111111;t100/"), 10, "holds", 0, 59);
        Scene.asks(told("v000009;t080/"), 0, "holds", 0, 59);
        Scene.asks(told("v000009;t090/"), 6, "holds", 0, 59);
    }

    private static void bestBounds() {
        Check.sentence("11: UNKNOWN: no such TAKER");
        Scene.bounds(Scene::whole, FourVault.UNKNOWN, 0, 0, 4, "best", 0, 0);
        Check.sentence("11: OUTSIDE: what 0, 1");
        Scene.bounds(Scene::whole, FourVault.OUTSIDE, 1, 0, 1, "best", 4, 0);
        Check.sentence("11: UNKNOWN ahead of OUTSIDE");
        Scene.refused(Scene::whole, FourVault.UNKNOWN, "best", 5, 2);
        Scene.refused(Scene::whole, FourVault.UNKNOWN, "best", -1, -1);
    }

    private static void best(String text, int place, int held) {
        Scene.asks(told(text), place, "best", 0, 0);
        Scene.asks(told(text), held, "best", 0, 1);
    }

    private static void bestOfSeveral() {
        Check.sentence("11: the PLACE so that who goes in HOLDS most: the first, the last");
        best("v011111;t010/", 0, 2);
        best("v111110;t000/", 5, 1);
        best("v999909;t080/", 4, 1);
        Check.sentence("11: of several the least");
        best("v5;t990/", 0, 19);
        best("v555555;t040/", 0, 0);
        best("v505050;t000/", 1, 1);
        best("v550055;t000/", 2, 2);
        best("v900900;t090/", 1, 5);
        best("v111111;t990/", 0, 40);
        Check.sentence("11: 40 at most: more than that is not most");
        best("v222210;t990/", 0, 40);
    }

    private static void togetherBounds() {
        Check.sentence("12: UNKNOWN: TAKERS, the first");
        Scene.bounds(Scene::whole, FourVault.UNKNOWN, 0, 0, 4, "together", 0, 2, 0);
        Check.sentence("12: UNKNOWN: TAKERS, the other");
        Scene.bounds(Scene::whole, FourVault.UNKNOWN, 1, 0, 4, "together", 2, 0, 0);
        Check.sentence("12: UNKNOWN: one with oneself");
        for (int a = 0; a < 5; a++) {
            Scene.refused(Scene::whole, FourVault.UNKNOWN, "together", a, a, 0);
        }
        Check.sentence("12: OUTSIDE: MINUTE m (0 .. 59)");
        Scene.bounds(Scene::whole, FourVault.OUTSIDE, 2, 0, 59, "together", 0, 4, 0);
        Check.sentence("12: UNKNOWN ahead of OUTSIDE");
        Scene.refused(Scene::whole, FourVault.UNKNOWN, "together", 5, 0, 60);
        Scene.refused(Scene::whole, FourVault.UNKNOWN, "together", 0, 5, -1);
        Scene.refused(Scene::whole, FourVault.UNKNOWN, "together", 3, 3, 60);
    }

    private static void togetherHalves() {
        Check.sentence("12: from each of them a DRAIN is half of what it is alone (cut each MINUTE)");
        Scene.asks(told("v3;t030;t990/"), 3, "together", 0, 1, 0);
        Scene.asks(told("v1;t000;t000/"), 40, "together", 0, 1, 0);
        Scene.asks(told("v13;t010;t010/"), 3, "together", 0, 1, 0);
        Check.sentence("12: half of a SINGER's, 1 less first");
        Scene.asks(told("v3;s010;t990/"), 1, "together", 0, 1, 0);
        Scene.asks(told("v2;s000;t990/"), 40, "together", 0, 1, 0);
        Check.sentence("12: half of a WIDOW's half");
        Scene.asks(told("v7;w030;t990/"), 3, "together", 0, 1, 0);
        Scene.asks(told("v8;w030;t990/"), 1, "together", 0, 1, 0);
        Check.sentence("12: no more than NERVE, from that MINUTE on");
        Scene.asks(told("v4;t080;t990/"), 4, "together", 0, 1, 0);
        Scene.asks(told("v4;t070;t990/"), 3, "together", 0, 1, 0);
        Scene.asks(told("v8000;t030;t990/"), 3, "together", 0, 1, 57);
        Scene.asks(told("v8000;t030;t990/"), 0, "together", 0, 1, 56);
        Check.sentence("12: 40 at most");
        Scene.asks(told("v2;t390;t990/"), 39, "together", 0, 1, 0);
        Scene.asks(told("v2;t400;t990/"), 40, "together", 0, 1, 0);
        Scene.asks(told("v2;t410;t990/"), 40, "together", 0, 1, 59);
    }

    private static void togetherTheLesser() {
        Check.sentence("12: both HOLD as long as the one who does less");
        Scene.asks(told("v2;t050;t030;t990/"), 3, "together", 0, 1, 0);
        Scene.asks(told("v2;t050;t030;t990/"), 3, "together", 1, 0, 0);
        Scene.asks(told("v2;t050;t030;t990/"), 5, "together", 0, 2, 0);
        Scene.asks(told("v2;t050;t030;t990/"), 5, "together", 2, 0, 0);
        Scene.asks(told("v9;t000;t990/"), 0, "together", 1, 0, 59);
    }

    private static void friendBounds() {
        Check.sentence("13: UNKNOWN: no such TAKER");
        Scene.bounds(Scene::whole, FourVault.UNKNOWN, 0, 0, 4, "friend", 0, 0);
        Check.sentence("13: OUTSIDE: MINUTE m (0 .. 59)");
        Scene.bounds(Scene::whole, FourVault.OUTSIDE, 1, 0, 59, "friend", 4, 0);
        Check.sentence("13: UNKNOWN ahead of OUTSIDE");
        Scene.refused(Scene::whole, FourVault.UNKNOWN, "friend", 5, 60);
        Scene.refused(Scene::whole, FourVault.UNKNOWN, "friend", -1, -1);
    }

    private static void friendOfSeveral() {
        Check.sentence("13: another one with whom they HOLD most: the first, the last");
        Scene.asks(told("v2;t090;t010;t010;t010;t990/"), 0, "friend", 4, 0);
        Scene.asks(told("v2;t990;t010;t010;t010;t090/"), 4, "friend", 0, 0);
        Check.sentence("13: of several the least");
        Scene.asks(told("v2;t990;t010;t030;t030;t030/"), 2, "friend", 0, 0);
        Scene.asks(told("v2;t010;t990;t990;t990;t990/"), 1, "friend", 0, 0);
        Scene.asks(told("v2;t010;t990;t990;t990;t990/"), 2, "friend", 1, 0);
        Scene.asks(told("v9;t000;t000;t000;t000;t000/"), 0, "friend", 4, 59);
        Scene.asks(told("v9;t000;t000;t000;t000;t000/"), 1, "friend", 0, 59);
        Check.sentence("13: another one: not oneself, who would do best");
        for (int a = 0; a < 3; a++) {
            String text = a == 0 ? "v2;t990;t020;t010/" : a == 1 ? "v2;t020;t990;t010/" : "v2;t010;t020;t990/";
            Scene.asks(told(text), a == 0 ? 1 : a == 1 ? 0 : 1, "friend", a, 0);
        }
        Check.sentence("13: in a MINUTE");
        Scene.asks(told("v90;t990;t030;w090/"), 2, "friend", 0, 0);
        Scene.asks(told("v8000;t990;t030;s020/"), 1, "friend", 0, 1);
    }

    private static void friendNone() {
        Check.sentence("13: NONE: there is no other one");
        Scene.asks(told("v0;t990/"), FourVault.NONE, "friend", 0, 0);
        Scene.asks(told("v9;w000/"), FourVault.NONE, "friend", 0, 59);
        Check.sentence("13: OUTSIDE ahead of NONE, UNKNOWN ahead of both");
        Scene.refused(told("v0;t990/"), FourVault.OUTSIDE, "friend", 0, 60);
        Scene.refused(told("v0;t990/"), FourVault.OUTSIDE, "friend", 0, -1);
        Scene.refused(told("v0;t990/"), FourVault.UNKNOWN, "friend", 1, 0);
        Check.sentence("13: one other who HOLDS nothing is no NONE");
        Scene.asks(told("v9;t000;t000/"), 1, "friend", 0, 0);
        Scene.asks(told("v9;t000;t000/"), 0, "friend", 1, 0);
    }
}
