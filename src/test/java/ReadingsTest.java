/** Promises 17 to 22: readings, what follows from them, and odds. */
public final class ReadingsTest {
    public static void main(String[] args) {
        readings();
        back();
        minds();
        kinds();
        glooms();
        nothingIsChanged();
        odds();
        oddsRefusals();
        Check.end("ReadingsTest");
    }

    private static void readings() {
        FourVault x = Check.with(Check.GANG);
        Check.due("no taker", x.reading(5, 60, 41), FourVault.UNKNOWN);
        Check.due("no taker -1", x.reading(-1, 0, 0), FourVault.UNKNOWN);
        int[][] outside = {{-1, 0}, {60, 0}, {0, -1}, {0, 41}};
        for (int[] r : outside) {
            Check.due("reading outside", x.reading(0, r[0], r[1]), FourVault.OUTSIDE);
        }
        Check.due("none yet", x.many(3), 0);
        for (int k = 0; k < 8; k++) {
            Check.due("reading " + k, x.reading(k % 5, 59 * (k % 2), 40 * (k % 2)), k);
            Check.due("many " + k, x.many(3), k + 1);
        }
        Check.due("a ninth", x.reading(0, 0, 0), FourVault.FULL);
        Check.due("a ninth outside", x.reading(0, 60, 0), FourVault.OUTSIDE);
        Check.due("a ninth of nobody", x.reading(5, 0, 0), FourVault.UNKNOWN);
        Check.due("eight", x.many(3), 8);
    }

    private static void back() {
        FourVault x = Check.with(Check.GANG);
        Check.due("back 0 of 0", x.back(0), 0);
        Check.due("back 1 of 0", x.back(1), FourVault.OUTSIDE);
        x.reading(0, 0, 3);
        x.reading(0, 0, 4);
        x.reading(0, 0, 5);
        Check.due("back -1", x.back(-1), FourVault.OUTSIDE);
        Check.due("back 4", x.back(4), FourVault.OUTSIDE);
        Check.due("back least", x.back(Integer.MIN_VALUE), FourVault.OUTSIDE);
        Check.due("minds of what can't be", x.minds(0), 0);
        Check.due("back 2", x.back(2), 1);
        Check.due("the first is left", x.minds(0), 0b110000);
        Check.due("back 0", x.back(0), 1);
        Check.due("numbered by how many", x.reading(1, 0, 0), 1);
        Check.due("back all", x.back(2), 0);
        Check.due("all minds", x.minds(0), 1023);
    }

    private static void minds() {
        FourVault x = Check.with("v3052;t254;s181;w302/");
        Check.due("no readings", x.minds(0), 1023);
        x.reading(0, 0, x.holds(0, 0));
        Check.due("what it is is among them", x.minds(0) >> 4 & 1, 1);
        Check.due("another's are all", x.minds(1), 1023);
        Check.due("no taker", x.minds(3), FourVault.UNKNOWN);
        Check.due("no taker -1", x.minds(-1), FourVault.UNKNOWN);
        FourVault y = Check.with("v0;t990;s990;w990/");
        y.reading(0, 0, 40);
        Check.due("40 at most: minds 0 1 2", y.minds(0), 0b111);
        y.reading(1, 5, 40);
        Check.due("a singer's: 0 .. 3", y.minds(1), 0b1111);
        y.reading(2, 59, 40);
        Check.due("a widow's: 0 .. 5", y.minds(2), 0b111111);
        y.brace(1, 0);
        Check.due("by what is now", y.minds(1), 0b11);
        y.reading(1, 0, 39);
        Check.due("two that can't both be", y.minds(1), 0);
        Check.due("another's can't either", y.minds(0), 0);
        FourVault z = Check.with("v19;t200;t200/");
        z.reading(0, 1, 2);
        Check.due("9 1 | 9 and a mind each", z.minds(0), 0b111110);
        z.reading(0, 0, 3);
        Check.due("1 9 1 | 9 and a mind each, too", z.minds(0), 0b1110);
    }

    private static void kinds() {
        FourVault x = Check.with("v5;t401;s401;w401;t000/");
        Check.due("no readings", x.kinds(0), 7);
        x.reading(0, 0, 6);
        Check.due("6 by 6", x.kinds(0), 1);
        Check.due("another's are all", x.kinds(1), 7);
        x.back(1);
        x.reading(0, 0, 8);
        Check.due("8 by 5: a singer", x.kinds(0), 2);
        Check.due("as a taker it can't be", x.kinds(1), 0);
        x.back(1);
        x.reading(0, 0, 13);
        Check.due("13 by 3: a widow", x.kinds(0), 4);
        x.back(1);
        x.reading(3, 0, 0);
        Check.due("no nerve: of any kind", x.kinds(3), 7);
        x.reading(2, 0, 13);
        Check.due("the other's kind holds", x.kinds(3), 7);
        Check.due("a widow", x.kinds(2), 4);
        Check.due("no taker", x.kinds(4), FourVault.UNKNOWN);
        Check.due("no taker -1", x.kinds(-1), FourVault.UNKNOWN);
        FourVault y = Check.with("v1;s000/");
        y.reading(0, 0, 40);
        Check.due("gloom 1: a singer or a widow", y.kinds(0), 6);
    }

    private static void glooms() {
        FourVault x = Check.with("v25;t100/");
        Check.due("no readings", x.glooms(1), 1023);
        x.reading(0, 0, 3);
        Check.due("2 v 2 | v", x.glooms(1), 0b1110000);
        Check.due("v 5 v | 5", x.glooms(0), 0b110);
        x.reading(0, 1, 3);
        x.reading(0, 59, 3);
        Check.due("of place 0, none of them is so", x.glooms(0), 0);
        Check.due("no place", x.glooms(2), FourVault.UNKNOWN);
        Check.due("no place -1", x.glooms(-1), FourVault.UNKNOWN);
        FourVault y = Check.with("v4;t120/");
        y.reading(0, 0, 3);
        Check.due("4 alone: 3 would be 4 of them", y.glooms(0), 1 << 4);
        y.reading(0, 7, 4);
        Check.due("none", y.glooms(0), 0);
    }

    private static void nothingIsChanged() {
        FourVault x = Check.with(Check.GANG);
        x.reading(0, 0, 3);
        x.put(0, 0, 0);
        for (int a = 0; a < 5; a++) {
            x.minds(a);
            x.kinds(a);
            x.glooms(a);
            x.odds(a, 40, 0);
        }
        String text = "";
        for (int k = 0; k < 4; k++) {
            text += x.gloom(k);
        }
        for (int a = 0; a < 5; a++) {
            int nerve = x.ofTaker(a, 1);
            text += ";" + "tsw".charAt(x.ofTaker(a, 0)) + nerve / 10 + nerve % 10 + x.ofTaker(a, 2);
        }
        Check.due("the vault is as it was", Check.GANG.startsWith("v" + text + "/") ? 1 : 0, 1);
        Check.due("fault() is as it was", x.fault(), 1);
        Check.due("ring is as it was", x.ring(3), 3);
    }

    private static void share(FourVault x, int a, int n, long upper, long lower) {
        Check.due("odds " + a + " " + n + " upper", x.odds(a, n, 0), upper);
        Check.due("odds " + a + " " + n + " lower", x.odds(a, n, 1), lower);
    }

    private static void odds() {
        FourVault x = Check.with("v1234;t060;t000;t990;s009;w010/");
        share(x, 0, 0, 1, 1);
        share(x, 0, 3, 1, 1);
        share(x, 0, 4, 11, 16);
        share(x, 1, 4, 1, 16);
        share(x, 1, 1, 1, 2);
        share(x, 1, 2, 1, 4);
        share(x, 1, 40, 1, 16);
        share(x, 2, 38, 1, 1);
        share(x, 2, 40, 15, 16);
        share(x, 3, 0, 1, 1);
        share(x, 3, 1, 0, 1);
        share(x, 4, 2, 1, 1);
        share(x, 4, 3, 3, 4);
        FourVault y = Check.with("v000000;t000;t001/");
        share(y, 0, 40, 1, 1);
        share(y, 1, 1, 0, 1);
        FourVault z = Check.with("v111111;t020/");
        share(z, 0, 6, 11, 32);
    }

    private static void oddsRefusals() {
        FourVault x = Check.with(Check.GANG);
        long[] refused = {x.odds(5, 0, 0), x.odds(-1, 0, 0), x.odds(0, -1, 0), x.odds(0, 41, 0), x.odds(0, 0, -1),
            x.odds(0, 0, 2), new FourVault().odds(0, 0, 0)};
        for (long answer : refused) {
            Check.due("odds refused", answer, Check.LOST);
        }
    }
}
