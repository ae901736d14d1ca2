/** Promises 10 to 14: how long one holds, alone, in pairs, and in nights that are told. */
public final class HoldsTest {
    public static void main(String[] args) {
        holds();
        best();
        together();
        friend();
        nightsTold();
        nightBehindALongerOne();
        nightsWrong();
        nightRefusals();
        nightOrder();
        Check.end("HoldsTest");
    }

    private static void holds() {
        FourVault x = Check.with("v12;t100;t030;t020;w000;t990/");
        Check.due("just as much as nerve", x.holds(1, 0), 2);
        Check.due("1 2 | 1", x.holds(2, 0), 1);
        Check.due("2 | 1", x.holds(2, 1), 1);
        Check.due("1 2 1 2 1 2 1", x.holds(0, 0), 7);
        Check.due("from minute 1 on", x.holds(0, 1), 6);
        Check.due("a widow of no nerve, gloom 1 of 1 2", x.holds(3, 0), 1);
        Check.due("40 at most", x.holds(4, 0), 40);
        Check.due("in the last minute", x.holds(2, 59), 1);
        x.brace(4, 0);
        x.hush(0, 0);
        x.hush(1, 0);
        Check.due("no drain: 40", x.holds(4, 0), 40);
        Check.due("minute -1", x.holds(0, -1), FourVault.OUTSIDE);
        Check.due("minute 60", x.holds(0, 60), FourVault.OUTSIDE);
        Check.due("no taker", x.holds(5, 60), FourVault.UNKNOWN);
        Check.due("no taker -1", x.holds(-1, 0), FourVault.UNKNOWN);
    }

    private static void best() {
        FourVault x = Check.with("v9122;t050;t000;t990/");
        Check.due("best", x.best(0, 0), 1);
        Check.due("best, how long", x.best(0, 1), 3);
        Check.due("all alike: the least", x.best(1, 0), 0);
        Check.due("all alike, how long", x.best(1, 1), 0);
        FourVault y = Check.with("v900900;t000;t100/");
        Check.due("of several the least", y.best(0, 0), 1);
        Check.due("how long", y.best(0, 1), 2);
        Check.due("from 1 on: 0 0 9 0 0", y.best(1, 1), 5);
        Check.due("what -1", x.best(0, -1), FourVault.OUTSIDE);
        Check.due("what 2", x.best(0, 2), FourVault.OUTSIDE);
        Check.due("no taker", x.best(3, 2), FourVault.UNKNOWN);
        Check.due("no taker -1", x.best(-1, 0), FourVault.UNKNOWN);
    }

    private static void together() {
        FourVault x = Check.with("v3;t030;t990;s020;w010;t100/");
        Check.due("half of 3 cut each minute is 1", x.together(0, 1, 0), 3);
        Check.due("the other way", x.together(1, 0, 0), 3);
        Check.due("a singer's half of 2 is 1", x.together(1, 2, 5), 2);
        Check.due("a widow's half of half of 3 is 0", x.together(1, 3, 5), 40);
        Check.due("the one who does less", x.together(2, 4, 59), 2);
        Check.due("one with oneself", x.together(1, 1, 60), FourVault.UNKNOWN);
        Check.due("no first", x.together(5, 1, 60), FourVault.UNKNOWN);
        Check.due("no other", x.together(1, -1, 60), FourVault.UNKNOWN);
        Check.due("none, one with oneself", x.together(7, 7, 0), FourVault.UNKNOWN);
        Check.due("minute 60", x.together(0, 1, 60), FourVault.OUTSIDE);
        Check.due("minute -1", x.together(0, 1, -1), FourVault.OUTSIDE);
        FourVault y = Check.with("v09;t090;t990/");
        Check.due("0 4 0 4 0", y.together(0, 1, 0), 5);
        Check.due("4 0 4 0", y.together(0, 1, 1), 4);
    }

    private static void friend() {
        FourVault x = Check.with("v2;t990;t030;t050;t050;t010/");
        Check.due("of several the least", x.friend(0, 0), 2);
        Check.due("not oneself", x.friend(2, 0), 0);
        Check.due("all alike", x.friend(4, 59), 0);
        Check.due("minute -1", x.friend(0, -1), FourVault.OUTSIDE);
        Check.due("minute 60", x.friend(0, 60), FourVault.OUTSIDE);
        Check.due("no taker", x.friend(5, 60), FourVault.UNKNOWN);
        FourVault y = Check.with("v9;t000/");
        Check.due("no other one", y.friend(0, 0), FourVault.NONE);
        Check.due("no other one, minute 60", y.friend(0, 60), FourVault.OUTSIDE);
        FourVault z = Check.with("v9;t000;t000/");
        Check.due("one who holds nothing is a friend", z.friend(0, 0), 1);
        FourVault w = Check.with("v09;t000;t000;t030/");
        Check.due("by minute 0", w.friend(2, 0), 0);
        Check.due("by minute 1", w.friend(0, 1), 1);
    }

    private static void night(FourVault x, int what, int want, int... pairs) {
        Check.row(x, 2, 1, pairs);
        StringBuilder call = new StringBuilder("night ").append(what).append(" of");
        for (int cell : pairs) {
            call.append(' ').append(cell);
        }
        Check.due(call.toString(), x.night(2, 1, 0, pairs.length / 2, what), want);
        Check.due(call + " fault", x.fault(), 0);
    }

    /** Takers who hold 3, 6, 0 and 40 minutes, whenever they go in. */
    private static FourVault even() {
        return Check.with("v2;t060;t120;t010;w500/");
    }

    private static void nightsTold() {
        FourVault x = even();
        for (int what = 0; what < 4; what++) {
            night(x, what, new int[] {0, FourVault.NONE, FourVault.NONE, 0}[what]);
        }
        night(x, 13, 0);
        night(x, 14, FourVault.NONE);
        int[] pairs = {0, 5, 1, 6, 2, 7, 0, 8, 1, 12};
        night(x, 0, 3 + 6 + 0 + 3 + 6, pairs);
        night(x, 1, FourVault.NONE, pairs);
        night(x, 2, 18, pairs);
        night(x, 3, 2, pairs);
        night(x, 10, 6, pairs);
        night(x, 11, 12, pairs);
        night(x, 12, 0, pairs);
        night(x, 13, 0, pairs);
        night(x, 14, FourVault.NONE, pairs);
        night(x, 2, 99, 3, 59);
        night(x, 2, 42, 3, 2, 0, 20);
        night(x, 2, 7, 2, 7);
        night(x, 3, 0, 2, 7);
        night(x, 3, 1, 0, 7);
        night(x, 3, 1, 0, 7, 1, 10);
        night(x, 3, 2, 0, 7, 1, 9);
        night(x, 3, 3, 0, 7, 1, 8, 2, 8, 3, 9);
        FourVault y = Check.with("v0;t990/");
        int[] most = new int[40];
        y.think(0, 9);
        y.brace(0, 9);
        for (int p = 0; p < 20; p++) {
            most[2 * p + 1] = p + 40;
        }
        night(y, 0, 20, most);
        night(y, 2, 60, most);
        night(y, 3, 1, most);
    }

    private static void nightBehindALongerOne() {
        FourVault x = even();
        int[] longer = {0, 5, 1, 6, 3, 7};
        int[] empty = {0, FourVault.NONE, FourVault.NONE, 0};
        int[] shorter = {3, FourVault.NONE, 8, 1};
        for (int what = 0; what < 4; what++) {
            night(x, 0, 49, longer);
            night(x, what, shorter[what], 0, 5);
            night(x, 0, 49, longer);
            night(x, what, empty[what]);
        }
        night(x, 11, 6, longer);
        night(x, 11, 0, 0, 5);
    }

    private static void nightsWrong() {
        FourVault x = even();
        int[][] nights = {
            {0, 9, 1, 8},
            {0, 9, 0, 11},
            {0, 9, 0, 9},
            {1, 0, 0, 0, 1, 5},
            {1, 0, 0, 1, 2, 1, 0, 3, 1, 6},
            {3, 0, 0, 1, 1, 1, 0, 0, 3, 0},
        };
        int[] wrong = {1, 1, 1, 2, 3, 3};
        for (int k = 0; k < nights.length; k++) {
            FourVault one = even();
            for (int what = 0; what <= 14; what++) {
                if (what < 4 || what >= 10) {
                    night(one, what, what == 1 ? wrong[k] : -100 - wrong[k], nights[k]);
                }
            }
        }
        night(x, 1, FourVault.NONE, 0, 9, 0, 12);
        night(x, 1, FourVault.NONE, 2, 9, 2, 9, 2, 9);
        night(x, 1, FourVault.NONE, 3, 0, 3, 40);
        night(x, 1, 1, 3, 0, 3, 39);
        night(x, 1, 2, 1, 0, 0, 5, 2, 4);
    }

    private static void refused(FourVault x, int[] call, int want, int fault) {
        x.put(3, -1, 0);
        String told = "night" + java.util.Arrays.toString(call);
        Check.due(told, x.night(call[0], call[1], call[2], call[3], call[4]), want);
        Check.due(told + " fault", x.fault(), fault);
    }

    private static void nightRefusals() {
        FourVault x = even();
        Check.row(x, 0, 2, 0, 0, 1, 1, 2, 2);
        refused(x, new int[] {-1, 3, 0, 0, 0}, FourVault.UNKNOWN, 0);
        refused(x, new int[] {4, 3, 0, 21, 4}, FourVault.UNKNOWN, 0);
        int[][] outside = {{0, -1, 0, 1, 0}, {0, 3, 0, 1, 0}, {0, 2, 0, -1, 0}, {0, 2, 0, 21, 0}, {0, 2, 0, 1, -1},
            {0, 2, 0, 1, 4}, {0, 2, 0, 1, 9}, {0, 2, 0, 1, 15}, {1, 0, 0, 1, 4}, {1, 0, 0, 21, 0},
            {0, 2, 0, Integer.MIN_VALUE, 0}, {0, 2, 0, Integer.MAX_VALUE, 0}};
        for (int[] call : outside) {
            refused(x, call, FourVault.OUTSIDE, 0);
        }
        refused(x, new int[] {0, 1, -1, 1, 0}, -12, 2);
        refused(x, new int[] {0, 0, 0, 0, 0}, -12, 2);
        refused(x, new int[] {1, 0, -1, 20, 0}, -11, 1);
        int[][] beyond = {{0, 2, 0, 4, 0}, {0, 2, 1, 3, 0}, {0, 2, 6, 1, 0}, {0, 2, 7, 0, 0}, {0, 2, -1, 0, 0},
            {0, 2, -2, 1, 0}, {0, 2, Integer.MAX_VALUE, 1, 0}, {0, 2, Integer.MIN_VALUE, 20, 0}};
        for (int[] call : beyond) {
            refused(x, call, -13, 3);
        }
        refused(x, new int[] {0, 2, 6, 0, 0}, 0, 0);
        refused(x, new int[] {0, 2, 2, 2, 0}, 6, 0);
    }

    private static void nightOrder() {
        FourVault x = new FourVault();
        Check.row(x, 0, 2, 9, 99);
        refused(x, new int[] {0, 2, 0, 1, 0}, FourVault.STATE, 0);
        refused(x, new int[] {0, 2, 0, 0, 1}, FourVault.STATE, 0);
        refused(x, new int[] {0, 2, 1, 1, 0}, -13, 3);
        FourVault y = even();
        night(y, 1, FourVault.UNKNOWN, 4, 60);
        night(y, 1, FourVault.UNKNOWN, -1, 0);
        night(y, 1, FourVault.OUTSIDE, 0, 60);
        night(y, 1, FourVault.OUTSIDE, 0, -1);
        night(y, 1, FourVault.OUTSIDE, 0, 60, 4, 0);
        night(y, 1, FourVault.UNKNOWN, 0, 0, 4, 0, 0, 60);
        night(y, 0, FourVault.UNKNOWN, 0, 9, 0, 0, 4, 0);
        night(y, 1, FourVault.OUTSIDE, 0, 9, 0, 0, 0, 60);
    }
}
