/** What the tests share: counting wrong answers, and telling rows and texts to an object. */
final class Check {
    static final long LOST = Long.MIN_VALUE;
    /** Four PLACES; a TAKER, a SINGER, a WIDOW, one of much nerve, one of none; four GOODS. */
    static final String GANG = "v3052;t254;s181;w302;t990;s000/1369";
    private static int sentences = 0;
    private static int answers = 0;
    private static int wrong = 0;
    private static String sentence = "";

    private Check() {
    }

    /** What follows tests this sentence of the document. */
    static void sentence(String told) {
        sentences++;
        sentence = "[" + told + "] ";
    }

    static void due(String call, long got, long want) {
        if (got != want) {
            System.out.println(sentence + call + " answered " + got + ", due is " + want);
        }
        count(got == want);
    }

    static void same(String what, String got, String want) {
        if (!got.equals(want)) {
            System.out.println(sentence + what + ": '" + got + "', due is '" + want + "'");
        }
        count(got.equals(want));
    }

    private static void count(boolean right) {
        answers++;
        wrong += right ? 0 : 1;
    }

    /** Ends the test: exit code 1 if an answer was wrong, or if nothing was asked. */
    static void end(String test) {
        String of = sentences == 0 ? "" : sentences + " sentences, ";
        System.out.println(test + ": " + of + answers + " answers, " + wrong + " wrong");
        if (wrong != 0 || answers == 0) {
            System.exit(1);
        }
    }

    /** A sheet gets the row, told by puts. */
    static void row(FourVault x, int sheet, int lane, int... cells) {
        due("sheet", x.sheet(sheet, lane, cells.length), 1);
        for (int i = 0; i < cells.length; i++) {
            due("put", x.put(sheet, i, cells[i]), 1);
        }
    }

    static int[] codes(String text) {
        return text.chars().toArray();
    }

    /** What vault() answers to the text, told in sheet 3. */
    static int vault(FourVault x, String text) {
        row(x, 3, 0, codes(text));
        return x.vault(3, 0, 0, text.length());
    }

    static FourVault with(String text) {
        FourVault x = new FourVault();
        int takers = vault(x, text);
        if (takers < 1) {
            due("vault " + text, takers, 1);
        }
        return x;
    }
}
