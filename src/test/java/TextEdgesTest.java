/** Terms 1: the TEXT, sentence by sentence: what it goes on with, where it is wrong, where it ends too soon. */
public final class TextEdgesTest {
    private static final String DIGITS = "0123456789";
    private static final String FOUR = "v1;t000;t000;t000;t000";
    private static final int[] FAR = {Integer.MIN_VALUE, Integer.MAX_VALUE, 118 + 256, 118 - 256, 48 + 256, 57 + 256,
        59 + 256, 47 + 256, 49 - 256, 116 + 65536, 118 + 65536, 49 + 65536, 59 - 65536};

    public static void main(String[] args) {
        whatGoesOn();
        endsTooSoon();
        howMany();
        numbersOfTwoDigits();
        firstOfSeveralFaults();
        faultsFarBehind();
        faultFromTheTextsBegin();
        notTakenChangesNothing();
        makesAllAnew();
        lanesOfTexts();
        Check.end("TextEdgesTest");
    }

    private static long read(FourVault x, int[] codes) {
        Check.row(x, 3, 2, codes);
        return x.vault(3, 2, 0, codes.length);
    }

    /** Behind the codes the text goes on with those allowed, and with no other number that a cell can have. */
    private static void goesOnWith(String told, String behind, String allowed) {
        Check.sentence(told);
        for (int code = -130; code <= 260; code++) {
            asked(behind, allowed, code);
        }
        for (int code : FAR) {
            asked(behind, allowed, code);
        }
    }

    private static void asked(String behind, String allowed, int code) {
        int at = behind.length();
        int[] codes = java.util.Arrays.copyOf(Check.codes(behind), at + 1);
        codes[at] = code;
        boolean right = code >= 0 && allowed.indexOf(code) >= 0;
        boolean isWhole = behind.indexOf('/') >= 0 || code == '/';
        long takers = behind.chars().filter(c -> c == ';').count();
        long want = !right ? -100 - at : isWhole ? takers : -101 - at;
        Check.due("'" + behind + "' and " + code, read(new FourVault(), codes), want);
    }

    private static void whatGoesOn() {
        goesOnWith("v", "", "v");
        goesOnWith("1 to 6 digits: at least one", "v", DIGITS);
        goesOnWith("1 to 6 digits: a second, or the first TAKER's ;", "v1", DIGITS + ";");
        goesOnWith("1 to 6 digits: a sixth", "v12345", DIGITS + ";");
        goesOnWith("the digit of a seventh PLACE", "v123456", ";");
        goesOnWith("each: ; and a letter", "v1;", "tsw");
        goesOnWith("two digits (NERVE): the first", "v1;t", DIGITS);
        goesOnWith("two digits (NERVE): the second", "v1;s0", DIGITS);
        goesOnWith("a digit (MIND)", "v1;w00", DIGITS);
        goesOnWith("1 to 5 TAKERS: a second, or /", "v1;t000", ";/");
        goesOnWith("1 to 5 TAKERS: a fifth", FOUR, ";/");
        goesOnWith("each: ; and a letter, of the fifth", FOUR + ";", "tsw");
        goesOnWith("the ; of a sixth TAKER", FOUR + ";t000", "/");
        goesOnWith("0 to 5 digits 1 .. 9: a first", "v1;t000/", "123456789");
        goesOnWith("0 to 5 digits 1 .. 9: a fifth", "v1;t000/1234", "123456789");
        goesOnWith("the digit of a sixth GOOD", "v1;t000/12345", "");
    }

    private static void endsTooSoon() {
        Check.sentence("how many codes there are, if it just ends too soon");
        String[] texts = {"v1;t000/", "v123456;t000;s111;w222;t333;s444/", "v12;w999;w999/"};
        for (String text : texts) {
            for (int n = 0; n < text.length(); n++) {
                int[] codes = Check.codes(text.substring(0, n));
                Check.due("'" + text.substring(0, n) + "'", read(new FourVault(), codes), -100 - n);
            }
        }
        FourVault x = Scene.bare();
        int takersEnd = Scene.TEXT.indexOf('/');
        Check.due("the row goes on, the text does not", x.vault(0, 0, 0, takersEnd), -100 - takersEnd);
        Check.due("with the / it is whole", x.vault(0, 0, 0, takersEnd + 1), 5);
    }

    private static String repeated(String part, int times) {
        return part.repeat(times);
    }

    private static void howMany() {
        for (int n = 0; n <= 7; n++) {
            Check.sentence("1 to 6 PLACES: " + n);
            FourVault x = new FourVault();
            int want = n == 0 ? -101 : n == 7 ? -107 : 1;
            Check.due("vault", Check.vault(x, "v" + repeated("3", n) + ";t111/"), want);
            Check.due("places", x.many(2), want == 1 ? n : 0);
        }
        for (int n = 0; n <= 6; n++) {
            Check.sentence("1 to 5 TAKERS: " + n);
            FourVault x = new FourVault();
            int want = n == 0 ? -102 : n == 6 ? -127 : n;
            Check.due("vault", Check.vault(x, "v3" + repeated(";t111", n) + "/"), want);
            Check.due("takers", x.many(0), Math.max(0, want));
        }
        for (int n = 0; n <= 6; n++) {
            Check.sentence("0 to 5 GOODS: " + n);
            FourVault x = new FourVault();
            int want = n == 6 ? -113 : 1;
            Check.due("vault", Check.vault(x, "v3;t111/" + repeated("9", n)), want);
            Check.due("goods", x.many(1), want == 1 ? n : 0);
        }
    }

    private static void numbersOfTwoDigits() {
        Check.sentence("two digits 00 .. 99 (NERVE), a digit 0 .. 9 (MIND)");
        String[] numbers = {"000", "990", "009", "999", "090", "900", "123"};
        for (String number : numbers) {
            FourVault x = Check.with("v3;s" + number + "/");
            Check.due("nerve of " + number, x.ofTaker(0, 1), Integer.parseInt(number.substring(0, 2)));
            Check.due("mind of " + number, x.ofTaker(0, 2), number.charAt(2) - '0');
        }
        Check.sentence("GLOOM of PLACES 0, 1 .. of the row, digits 0 .. 9");
        FourVault x = Check.with("v098107;t000/19");
        int[] glooms = {0, 9, 8, 1, 0, 7};
        for (int k = 0; k < 6; k++) {
            Check.due("gloom " + k, x.gloom(k), glooms[k]);
        }
        Check.sentence("GOODS, numbered from 0 on: DEPTH of each, digits 1 .. 9");
        Check.due("depth 0", x.depth(0), 1);
        Check.due("depth 1", x.depth(1), 9);
        Check.sentence("TAKERS, numbered from 0 on; kinds 0 (t), 1 (s), 2 (w)");
        FourVault y = Check.with("v0;w100;t201;s302;w403;s504/");
        int[] kinds = {2, 0, 1, 2, 1};
        for (int a = 0; a < 5; a++) {
            Check.due("kind " + a, y.ofTaker(a, 0), kinds[a]);
            Check.due("nerve " + a, y.ofTaker(a, 1), 10 * a + 10);
            Check.due("mind " + a, y.ofTaker(a, 2), a);
        }
    }

    private static void firstOfSeveralFaults() {
        Check.sentence("FIRST FAULT: the first code with which no TEXT goes on");
        String[] texts = {"x;/", "v;;", "v1234567;x", "v1;x/x", "v1;tx0x/0", "v1;t0xx/", "v1;t00x;x/0", "v1;t000x;x",
            "v1;t000/0x", "v1;t000/1234567", "v1//", "v1;t000;;"};
        int[] places = {0, 1, 7, 3, 4, 5, 6, 7, 8, 13, 2, 8};
        for (int k = 0; k < texts.length; k++) {
            Check.due(texts[k], Check.vault(new FourVault(), texts[k]), -100 - places[k]);
        }
    }

    private static void faultsFarBehind() {
        Check.sentence("FIRST FAULT at the last place that one can have");
        Check.due("a sixth good of the longest text", Check.vault(new FourVault(), Scene.TEXT + "1"), -138);
        String longest = Scene.TEXT + repeated("x", 60 - Scene.TEXT.length());
        Check.due("a row of 60 codes", Check.vault(new FourVault(), longest), -138);
        Check.sentence("a TEXT may be all of the longest row's last cells");
        FourVault x = new FourVault();
        Check.row(x, 1, 0, Check.codes(repeated("x", 60 - Scene.TEXT.length()) + Scene.TEXT));
        Check.due("to the row's end", x.vault(1, 0, 60 - Scene.TEXT.length(), Scene.TEXT.length()), 5);
    }

    private static void faultFromTheTextsBegin() {
        Check.sentence("FIRST FAULT: the place from 0 on, of a TEXT from i on");
        FourVault x = new FourVault();
        Check.row(x, 1, 1, Check.codes("zzv5;t1x9/"));
        Check.due("wrong at 5", x.vault(1, 1, 2, 8), -105);
        Check.due("too soon at 3", x.vault(1, 1, 2, 3), -103);
        Check.due("no codes at the end", x.vault(1, 1, 10, 0), -100);
        Check.due("none of these is a FAULT", x.fault(), 0);
    }

    /** The whole scene, with a row of the text in sheet 3. */
    private static FourVault toldIn3(String text) {
        FourVault x = Scene.whole();
        Check.row(x, 3, 0, Check.codes(text));
        return x;
    }

    private static void notTakenChangesNothing() {
        Check.sentence("a TEXT with a FIRST FAULT changes nothing");
        String other = "v9;w999;t888/99999";
        for (int n = 0; n <= other.indexOf('/'); n++) {
            String spoilt = other.substring(0, n) + "x" + other.substring(n + 1);
            stays(spoilt, n);
            stays(other.substring(0, n), n);
        }
        stays(other + "9", other.length());
    }

    private static void stays(String text, int place) {
        FourVault x = toldIn3(text);
        FourVault twin = toldIn3(text);
        Check.due("vault of " + text, x.vault(3, 0, 0, text.length()), -100 - place);
        Check.due("fault", x.fault(), 0);
        Check.same("all that is seen behind " + text, Scene.seen(x), Scene.seen(twin));
    }

    private static void makesAllAnew() {
        Check.sentence("A TEXT that is taken makes all anew");
        FourVault x = Scene.whole();
        Check.due("the same text", x.vault(0, 0, 0, Scene.TEXT.length()), 5);
        Check.due("gloom as told", x.gloom(1), 0);
        Check.due("mind as told", x.ofTaker(0, 2), 4);
        Check.due("nerve as told", x.ofTaker(1, 1), 18);
        Check.due("a lesser text", Check.vault(x, "v7;w123/"), 1);
        Check.due("places", x.many(2), 1);
        Check.due("takers", x.many(0), 1);
        Check.due("goods", x.many(1), 0);
        Check.due("no gloom 1", x.gloom(1), FourVault.UNKNOWN);
        Check.due("no taker 1", x.ofTaker(1, 1), FourVault.UNKNOWN);
        Check.due("no depth 0", x.depth(0), FourVault.UNKNOWN);
        Check.due("kind", x.ofTaker(0, 0), 2);
        Check.sentence("A TEXT that is taken: no READINGS");
        FourVault y = Scene.full();
        Check.due("full", y.reading(0, 0, 0), FourVault.FULL);
        Check.due("the same text", y.vault(0, 0, 0, Scene.TEXT.length()), 5);
        Check.due("none", y.many(3), 0);
        Check.due("none to take back", y.back(1), FourVault.OUTSIDE);
        Check.due("all minds", y.minds(0), 1023);
        Check.due("numbered from 0 on", y.reading(0, 0, 0), 0);
        Check.sentence("A TEXT that is taken leaves SHEETS and TRACE");
        FourVault z = Scene.whole();
        int trace = z.trace();
        z.vault(0, 0, 0, Scene.TEXT.length());
        Check.due("trace", z.trace(), trace);
        Check.same("sheet 0", Scene.seenRow(z, 0), Scene.seenRow(Scene.whole(), 0));
        Check.same("sheet 1", Scene.seenRow(z, 1), Scene.seenRow(Scene.whole(), 1));
        Check.due("sheet 3", z.lose(3), 0);
    }

    private static void lanesOfTexts() {
        Check.sentence("a TEXT of cells taken as a row of a LANE");
        for (int lane = 0; lane < 3; lane++) {
            for (int as = 0; as < 3; as++) {
                FourVault x = new FourVault();
                Check.row(x, 1, lane, Check.codes("v5;t119/"));
                Check.due("lane " + lane + " as " + as, x.vault(1, as, 0, 8), as == lane ? 1 : -12);
            }
        }
    }
}
