import java.util.function.Supplier;

/** Promises 17 to 22, sentence by sentence: readings, what follows from them, odds. */
public final class ReadingsEdgesTest {
    private static final int ALL = 0b1111111111;

    public static void main(String[] args) {
        readingBounds();
        eightAtMost();
        numbered();
        backBounds();
        theLastAreTakenBack();
        setsBounds();
        withoutReadings();
        minds();
        kinds();
        glooms();
        inPlaceOfItAlone();
        allReadingsAreSo();
        heldAtItsEdges();
        byWhatIsNow();
        oddsBounds();
        oddsShares();
        oddsLeastTerms();
        oddsOfSetsAlike();
        Check.end("ReadingsEdgesTest");
    }

    private static void readingBounds() {
        Check.sentence("17: UNKNOWN: no such TAKER");
        Scene.bounds(Scene::whole, FourVault.UNKNOWN, 0, 0, 4, "reading", 0, 0, 0);
        Check.sentence("17: OUTSIDE: m (0 .. 59)");
        Scene.bounds(Scene::whole, FourVault.OUTSIDE, 1, 0, 59, "reading", 4, 0, 0);
        Check.sentence("17: OUTSIDE: held (0 .. 40)");
        Scene.bounds(Scene::whole, FourVault.OUTSIDE, 2, 0, 40, "reading", 4, 0, 0);
        Check.sentence("17: UNKNOWN ahead of OUTSIDE");
        Scene.refused(Scene::whole, FourVault.UNKNOWN, "reading", 5, 60, 0);
        Scene.refused(Scene::whole, FourVault.UNKNOWN, "reading", -1, 0, 41);
    }

    private static void eightAtMost() {
        Check.sentence("17: READINGS, 8 at most: FULL");
        Scene.refused(Scene::full, FourVault.FULL, "reading", 0, 0, 0);
        Scene.refused(Scene::full, FourVault.FULL, "reading", 4, 59, 40);
        Check.sentence("17: UNKNOWN and OUTSIDE ahead of FULL");
        Scene.refused(Scene::full, FourVault.UNKNOWN, "reading", 5, 0, 0);
        Scene.refused(Scene::full, FourVault.UNKNOWN, "reading", -1, 60, 41);
        Scene.refused(Scene::full, FourVault.OUTSIDE, "reading", 0, 60, 0);
        Scene.refused(Scene::full, FourVault.OUTSIDE, "reading", 0, 0, 41);
        Check.sentence("17: when one is taken back an eighth is taken again");
        FourVault x = Scene.full();
        Check.due("back", x.back(1), 7);
        Check.due("an eighth", x.reading(0, 0, 0), 7);
        Check.due("a ninth", x.reading(0, 0, 0), FourVault.FULL);
    }

    private static void numbered() {
        Check.sentence("17: its number: by how many there are, from 0 on");
        FourVault x = Check.with("v0;t000/");
        for (int k = 0; k < 8; k++) {
            Check.due("reading", x.reading(0, k, 40), k);
            Check.due("many", x.many(3), k + 1);
        }
        Check.due("back", x.back(5), 3);
        Check.due("the next", x.reading(0, 0, 40), 3);
    }

    private static void backBounds() {
        Check.sentence("18: OUTSIDE: k 0 .. as many as there are");
        Scene.bounds(Scene::whole, FourVault.OUTSIDE, 0, 0, 3, "back", 0);
        Scene.bounds(Scene::full, FourVault.OUTSIDE, 0, 0, 8, "back", 0);
        Scene.bounds(() -> Check.with("v0;t000/"), FourVault.OUTSIDE, 0, 0, 0, "back", 0);
        Check.sentence("18: how many are left");
        for (int k = 0; k <= 8; k++) {
            FourVault x = Scene.full();
            Check.due("back " + k, x.back(k), 8 - k);
            Check.due("many", x.many(3), 8 - k);
        }
        Check.sentence("18: back 0 changes nothing");
        Scene.asks(Scene::full, 8, "back", 0);
    }

    private static void theLastAreTakenBack() {
        Check.sentence("18: the last k READINGS are taken back");
        FourVault x = Check.with("v0;t121;t122;t123/");
        x.reading(0, 0, 12);
        x.reading(1, 0, 6);
        x.reading(2, 0, 40);
        Check.due("the last can't be", x.minds(0), 0);
        Check.due("back 1", x.back(1), 2);
        Check.due("by the first", x.minds(0), 0b10);
        Check.due("by the second", x.minds(1), 0b100);
        Check.due("of the third all", x.minds(2), ALL);
        Check.due("back 1", x.back(1), 1);
        Check.due("by the first still", x.minds(0), 0b10);
        Check.due("of the second all", x.minds(1), ALL);
        Check.due("back 1", x.back(1), 0);
        Check.due("of the first all", x.minds(0), ALL);
    }

    private static void setsBounds() {
        Check.sentence("19: UNKNOWN: no such TAKER");
        Scene.bounds(Scene::whole, FourVault.UNKNOWN, 0, 0, 4, "minds", 0);
        Check.sentence("20: UNKNOWN: no such TAKER");
        Scene.bounds(Scene::whole, FourVault.UNKNOWN, 0, 0, 4, "kinds", 0);
        Check.sentence("21: UNKNOWN: no such PLACE");
        Scene.bounds(Scene::whole, FourVault.UNKNOWN, 0, 0, 5, "glooms", 0);
        Check.sentence("19 to 21: asking changes nothing");
        for (int a = 0; a < 5; a++) {
            Scene.asks(Scene::whole, Scene.whole().minds(a), "minds", a);
            Scene.asks(Scene::whole, Scene.whole().kinds(a), "kinds", a);
            Scene.asks(Scene::whole, Scene.whole().glooms(a + 1), "glooms", a + 1);
        }
    }

    private static void withoutReadings() {
        Supplier<FourVault> none = () -> Check.with(Scene.TEXT);
        Check.sentence("19: without READINGS all MINDS 0 .. 9");
        Scene.asks(none, ALL, "minds", 4);
        Check.sentence("20: without READINGS all KINDS 0 .. 2");
        Scene.asks(none, 0b111, "kinds", 4);
        Check.sentence("21: without READINGS all GLOOMS 0 .. 9");
        Scene.asks(none, ALL, "glooms", 5);
    }

    /** A scene of the text with readings told in threes. */
    private static Supplier<FourVault> read(String text, int... readings) {
        return () -> {
            FourVault x = Check.with(text);
            for (int r = 0; r + 2 < readings.length; r += 3) {
                x.reading(readings[r], readings[r + 1], readings[r + 2]);
            }
            return x;
        };
    }

    private static void minds() {
        Check.sentence("19: MINDS 0 .. 9, as a set: the least and the greatest");
        Scene.asks(read("v1;t400/", 0, 0, 40), 0b1, "minds", 0);
        Scene.asks(read("v9;t365/", 0, 0, 2), 0b1111110000, "minds", 0);
        Scene.asks(read("v9;t171/", 0, 0, 0), 0b1000000000, "minds", 0);
        Scene.asks(read("v9;t181/", 0, 0, 0), 0, "minds", 0);
        Check.sentence("19: MINDS of a SINGER, of a WIDOW");
        Scene.asks(read("v0;s120/", 0, 0, 12), 0b100, "minds", 0);
        Scene.asks(read("v0;w120/", 0, 0, 12), 0b1100, "minds", 0);
        Scene.asks(read("v0;s000/", 0, 0, 40), 0b11, "minds", 0);
        Scene.asks(read("v0;w000/", 0, 0, 40), 0b11, "minds", 0);
    }

    private static void kinds() {
        Check.sentence("20: KINDS 0 .. 2, as a set: each alone, two of them, all, none");
        Scene.asks(read("v5;s401/", 0, 0, 6), 0b001, "kinds", 0);
        Scene.asks(read("v5;w401/", 0, 0, 8), 0b010, "kinds", 0);
        Scene.asks(read("v5;t401/", 0, 0, 13), 0b100, "kinds", 0);
        Scene.asks(read("v1;t000/", 0, 0, 40), 0b110, "kinds", 0);
        Scene.asks(read("v2;t060/", 0, 0, 6), 0b110, "kinds", 0);
        Scene.asks(read("v9;t000/", 0, 0, 0), 0b111, "kinds", 0);
        Scene.asks(read("v9;t000/", 0, 0, 1), 0, "kinds", 0);
    }

    private static void glooms() {
        Check.sentence("21: GLOOMS 0 .. 9, as a set: the least and the greatest");
        Scene.asks(read("v5;t000/", 0, 0, 40), 0b1, "glooms", 0);
        Scene.asks(read("v5;t170/", 0, 0, 1), 0b1000000000, "glooms", 0);
        Scene.asks(read("v5;t180/", 0, 0, 1), 0, "glooms", 0);
        Check.sentence("21: GLOOMS of the last PLACE, in all of its MINUTES");
        Scene.asks(read("v000005;t100/", 0, 0, 11), 0b1111000000, "glooms", 5);
        Scene.asks(read("v000005;t100/", 0, 0, 17), 0b0000110000, "glooms", 5);
        Check.sentence("21: GLOOMS of a PLACE in which nobody was");
        Scene.asks(read("v990999;t000/", 0, 2, 1), ALL, "glooms", 0);
    }

    private static void inPlaceOfItAlone() {
        Check.sentence("19: in place of MIND alone: another's READING that is not so leaves none");
        Scene.asks(read("v1;t101;t101/", 1, 0, 5), ALL, "minds", 0);
        Scene.asks(read("v1;t101;t101/", 1, 0, 6), 0, "minds", 0);
        Check.sentence("20: in place of the kind alone");
        Scene.asks(read("v1;t101;t101/", 1, 0, 5), 0b111, "kinds", 0);
        Scene.asks(read("v1;t101;t101/", 1, 0, 6), 0, "kinds", 0);
        Check.sentence("21: in place of the GLOOM of that PLACE alone");
        Scene.asks(read("v13;t040;t990/", 0, 0, 2), 0b1000, "glooms", 1);
        Scene.asks(read("v13;t040;t990/", 0, 1, 9), 0b1, "glooms", 1);
        Scene.asks(read("v13;t040;t990/", 0, 1, 10), 0, "glooms", 1);
    }

    private static void allReadingsAreSo() {
        Check.sentence("19: by which all READINGS are so: the first and the last of eight");
        int[] eight = new int[24];
        for (int r = 0; r < 8; r++) {
            eight[3 * r] = 0;
            eight[3 * r + 1] = r;
            eight[3 * r + 2] = 6;
        }
        Scene.asks(read("v1;t121/", eight), 0b10, "minds", 0);
        Scene.asks(read("v1;t121/", eight), 0b10, "glooms", 0);
        Scene.asks(read("v1;t121/", eight), 0b1, "kinds", 0);
        for (int wrong = 0; wrong < 8; wrong += 7) {
            int[] other = eight.clone();
            other[3 * wrong + 2] = 7;
            Scene.asks(read("v1;t121/", other), 0, "minds", 0);
            Scene.asks(read("v1;t121/", other), 0, "glooms", 0);
            Scene.asks(read("v1;t121/", other), 0, "kinds", 0);
        }
    }

    private static void heldAtItsEdges() {
        Check.sentence("17: a READING of 0 MINUTES: not one of them was HELD");
        Scene.asks(read("v0;t050/", 0, 59, 0), 0b1111000000, "minds", 0);
        Check.sentence("17: a READING of 40 MINUTES: 40 at most");
        Scene.asks(read("v0;t800/", 0, 59, 40), 0b111, "minds", 0);
        Scene.asks(read("v0;t790/", 0, 0, 40), 0b11, "minds", 0);
        Scene.asks(read("v0;t790/", 0, 0, 39), 0b100, "minds", 0);
        Check.sentence("17: who went in in a MINUTE");
        Scene.asks(read("v90;t090/", 0, 59, 3), 0b1, "minds", 0);
        Scene.asks(read("v90;t090/", 0, 58, 2), 0b1, "minds", 0);
        Scene.asks(read("v90;t090/", 0, 58, 3), 0, "minds", 0);
        Check.sentence("17: alone: no half DRAINS");
        Scene.asks(read("v2;t060;t060/", 0, 0, 3, 1, 0, 3), 0b1, "minds", 0);
    }

    private static void byWhatIsNow() {
        Check.sentence("19 to 21: by the NERVE, MIND, GLOOM that are now");
        FourVault x = Check.with("v2;t060/");
        x.reading(0, 0, 3);
        Check.due("minds", x.minds(0), 0b1);
        x.brace(0, 12);
        Check.due("by another nerve", x.minds(0), 0b100);
        x.hush(0, 4);
        Check.due("by another gloom", x.minds(0), 0b1);
        x.think(0, 9);
        Check.due("what is on the mind is not asked", x.minds(0), 0b1);
        Check.due("glooms by another mind", x.glooms(0), 0);
        x.think(0, 3);
        Check.due("glooms by that mind", x.glooms(0), 0b10);
    }

    private static void oddsBounds() {
        Check.sentence("22: LOST: UNKNOWN: no such TAKER");
        Scene.bounds(Scene::whole, 0, 0, 0, 4, "odds", 0, 0, 0);
        Check.sentence("22: LOST: OUTSIDE: n MINUTES (0 .. 40)");
        Scene.bounds(Scene::whole, 0, 1, 0, 40, "odds", 4, 0, 0);
        Check.sentence("22: LOST: OUTSIDE: which 0, 1");
        Scene.bounds(Scene::whole, 0, 2, 0, 1, "odds", 4, 40, 0);
    }

    private static void share(String text, int n, long upper, long lower) {
        Scene.asks(() -> Check.with(text), upper, "odds", 0, n, 0);
        Scene.asks(() -> Check.with(text), lower, "odds", 0, n, 1);
    }

    private static void oddsShares() {
        Check.sentence("22: HOLDS n MINUTES at least: none is always HELD");
        share("v9;t009/", 0, 1, 1);
        share("v999999;t009/", 0, 1, 1);
        Check.sentence("22: in no set at all: 0 of 1");
        share("v9;t009/", 1, 0, 1);
        share("v000000;t389/", 40, 0, 1);
        Check.sentence("22: in all sets: 1 of 1");
        share("v9;t900/", 10, 1, 1);
        share("v000000;t000/", 40, 1, 1);
        Check.sentence("22: DRAINS no more than NERVE, just so and one less");
        share("v1;t400/", 40, 1, 1);
        share("v1;t390/", 40, 1, 2);
        share("v1;t390/", 39, 1, 1);
        share("v21;t020/", 2, 3, 4);
        share("v21;t030/", 2, 1, 1);
        share("v21;t010/", 2, 1, 2);
        share("v21;t000/", 2, 1, 4);
        Check.sentence("22: who goes in in MINUTE 0");
        share("v09;t000/", 1, 1, 1);
        share("v90;t000/", 1, 1, 2);
        Check.sentence("22: behind the last PLACE the first one comes again, in its set");
        share("v20;t030/", 3, 1, 2);
        share("v20;t040/", 3, 1, 1);
        share("v1;t020/", 3, 1, 2);
        Check.sentence("22: GLOOM alone or none, MIND stays");
        share("v1;t011/", 1, 1, 2);
        share("v1;t001/", 1, 0, 1);
        share("v1;s001/", 1, 1, 2);
        share("v1;w001/", 1, 1, 2);
        share("v9;s000/", 40, 1, 2);
    }

    private static void oddsLeastTerms() {
        Check.sentence("22: in least terms");
        share("v1111;t010/", 4, 5, 16);
        share("v1111;t020/", 4, 11, 16);
        share("v111;t010/", 3, 1, 2);
        share("v11;t010/", 2, 3, 4);
        share("v111111;t000/", 6, 1, 64);
        share("v111111;t050/", 6, 63, 64);
        share("v111111;t010/", 6, 7, 64);
        share("v111111;t020/", 6, 11, 32);
        share("v111111;t030/", 6, 21, 32);
    }

    private static void oddsOfSetsAlike() {
        Check.sentence("22: all such sets of PLACES alike, also where a GLOOM is 0");
        share("v0009;t000/", 4, 1, 2);
        share("v0099;t000/", 4, 1, 4);
        share("v0900;t000/", 3, 1, 2);
        Check.sentence("22: PLACES not come to are in sets, too");
        share("v999999;t000/", 1, 1, 2);
        share("v999999;t090/", 2, 3, 4);
        Check.sentence("22: READINGS are not asked");
        Scene.asks(read("v9;t000/", 0, 0, 0), 1, "odds", 0, 1, 0);
        Scene.asks(read("v9;t000/", 0, 0, 0), 2, "odds", 0, 1, 1);
    }
}
