/** Promises 15 and 16: goods that one gets, and whom to send for which. */
public final class GoodsTest {
    public static void main(String[] args) {
        gets();
        send();
        sendNoneOrSeveral();
        sendBehindALargerVault();
        sendRefusals();
        Check.end("GoodsTest");
    }

    private static void gets() {
        FourVault x = Check.with("v2;t120;t110;t000;w500/31239");
        Check.due("6 minutes: depths 3 1 2 3", x.gets(0, 0), 0b01111);
        Check.due("5 minutes: depths 1 2", x.gets(1, 7), 0b00110);
        Check.due("none", x.gets(2, 59), 0);
        Check.due("40 minutes: all", x.gets(3, 59), 0b11111);
        Check.due("minute -1", x.gets(0, -1), FourVault.OUTSIDE);
        Check.due("minute 60", x.gets(0, 60), FourVault.OUTSIDE);
        Check.due("no taker", x.gets(4, 60), FourVault.UNKNOWN);
        Check.due("no taker -1", x.gets(-1, 0), FourVault.UNKNOWN);
        FourVault y = Check.with("v90;t050/1");
        Check.due("in minute 0", y.gets(0, 0), 0);
        Check.due("in minute 1: one minute", y.gets(0, 1), 0);
        y.hush(0, 5);
        Check.due("hushed", y.gets(0, 1), 1);
        Check.due("no goods", Check.with("v0;t000/").gets(0, 0), 0);
    }

    private static void sent(FourVault x, int m, int depths, int... goods) {
        Check.due("send " + m + " depths", x.send(m, -1), depths);
        for (int k = 0; k < 5; k++) {
            Check.due("send " + m + " of " + k, x.send(m, k), k < goods.length ? goods[k] : FourVault.NONE);
        }
    }

    private static void send() {
        int none = FourVault.NONE;
        sent(Check.with("v2;t120;t990/31"), 0, 4, 0, 1);
        sent(Check.with("v2;t990;t120/93"), 0, 12, 0, 1);
        sent(Check.with("v2;t990;t120/39"), 0, 12, 1, 0);
        sent(Check.with("v2;t990;t990/123"), 0, 5, 1, 2);
        sent(Check.with("v2;t990;t990;t990/55"), 59, 10, 0, 1, none);
        sent(Check.with("v2;t000;t990;t990/55"), 59, 10, none, 0, 1);
        sent(Check.with("v2;t990;t040;t990/1199"), 3, 19, 2, 0, 3);
        sent(Check.with("v2;t040;t040;t040;t040;t990/11111"), 3, 5, 0, 1, 2, 3, 4);
        sent(Check.with("v2;t990;t990/"), 3, 0, none, none);
        sent(Check.with("v9;t000;t000/1"), 3, 0, none, none);
    }

    private static void sendNoneOrSeveral() {
        int none = FourVault.NONE;
        // the good that the second can't get is left to the first, though a lower one is there for it
        sent(Check.with("v2;t990;t040/19"), 0, 10, 1, 0);
        // the first as a row: taker 0 goes for the lower good, whoever else could
        sent(Check.with("v2;t990;t990/44"), 0, 8, 0, 1);
        // none comes behind all goods: taker 0 goes, though taker 1 alone would bring as much
        sent(Check.with("v2;t990;t990/4"), 0, 4, 0, none);
        FourVault x = Check.with("v90;t090;t090/1");
        sent(x, 0, 1, 0, none);
        x.brace(0, 8);
        sent(x, 0, 1, none, 0);
        Check.due("by the minute", x.send(1, 0), none);
        FourVault y = Check.with("v2;t120;t080;t040;t990;t160/43211");
        sent(y, 0, 11, 1, 2, 3, 0, 4);
    }

    private static void sendBehindALargerVault() {
        FourVault x = Check.with("v2;t990;t990;t990;t990;t990/99999");
        sent(x, 0, 45, 0, 1, 2, 3, 4);
        Check.due("a smaller vault", Check.vault(x, "v2;t990;t040/145"), 2);
        sent(x, 0, 6, 2, 0);
        Check.due("a vault of one", Check.vault(x, "v2;t040/11"), 1);
        sent(x, 0, 1, 0);
    }

    private static void sendRefusals() {
        FourVault x = new FourVault();
        Check.due("no vault", x.send(0, -1), FourVault.STATE);
        Check.due("no vault, of 4", x.send(59, 4), FourVault.STATE);
        Check.due("no vault, minute 60", x.send(60, 0), FourVault.OUTSIDE);
        Check.due("no vault, of 5", x.send(0, 5), FourVault.OUTSIDE);
        FourVault y = Check.with("v2;t990/4");
        Check.due("minute -1", y.send(-1, 0), FourVault.OUTSIDE);
        Check.due("minute 60", y.send(60, 0), FourVault.OUTSIDE);
        Check.due("of -2", y.send(0, -2), FourVault.OUTSIDE);
        Check.due("of 5", y.send(0, 5), FourVault.OUTSIDE);
        Check.due("no such taker", y.send(0, 4), FourVault.NONE);
    }
}
