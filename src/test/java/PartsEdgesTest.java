/** Promises 28 to 33, sentence by sentence: tell, ring, as, trace, fault, many. */
public final class PartsEdgesTest {
    private static final int MIN = Integer.MIN_VALUE, MAX = Integer.MAX_VALUE;

    public static void main(String[] args) {
        tell();
        ring();
        unknownLeavesNoTrace();
        traceWraps();
        as();
        faultOfCallsThatNameOne();
        faultOfCallsThatNameNone();
        faultOfEachKind();
        many();
        Check.end("PartsEdgesTest");
    }

    private static int after(int trace, int... numbers) {
        for (int number : numbers) {
            trace = 31 * trace + number;
        }
        return trace;
    }

    private static void told(String text, int want, int... bodies) {
        FourVault x = Check.with(text);
        Check.due("tell of " + text, x.tell(0), want);
        Check.due("trace", x.trace(), after(0, bodies));
        Check.due("again", x.tell(0), want);
        Check.due("trace", x.trace(), after(after(0, bodies), bodies));
    }

    private static void tell() {
        Check.sentence("28: TAKER (1): NERVE");
        told("v0;t000/", 0, 1);
        told("v0;t990/", 99, 1);
        Check.sentence("28: SINGER (2): what TAKER's gives, and 100");
        told("v0;s000/", 100, 2, 1);
        told("v0;s990/", 199, 2, 1);
        Check.sentence("28: WIDOW (3): what SINGER's gives, and what TAKER's gives (SINGER's left out)");
        told("v0;w000/", 100, 3, 2, 1, 1);
        told("v0;w990/", 298, 3, 2, 1, 1);
        Check.sentence("28: by the NERVE that is");
        FourVault x = Scene.whole();
        Check.due("of the one who was braced", x.tell(1), 117);
        x.brace(1, 0);
        Check.due("braced again", x.tell(1), 100);
        Check.sentence("28: UNKNOWN: no such TAKER");
        Scene.bounds(Scene::whole, FourVault.UNKNOWN, 0, 0, 4, "tell", 0);
    }

    private static void ring() {
        Check.sentence("29: RUNG by a lent body (4): their number");
        FourVault x = Check.with("v0;t000;s000;t000;s000;w000/");
        int trace = 0;
        for (int a = 0; a < 4; a++) {
            trace = after(trace, 4);
            Check.due("ring " + a, x.ring(a), a);
            Check.due("trace", x.trace(), trace);
        }
        Check.sentence("29: WIDOWS have their own (5): 40");
        Check.due("ring 4", x.ring(4), 40);
        Check.due("trace", x.trace(), after(trace, 5));
        FourVault y = Check.with("v0;w000;t000/");
        Check.due("a widow ahead", y.ring(0), 40);
        Check.due("a taker behind", y.ring(1), 1);
        Check.due("trace", y.trace(), after(0, 5, 4));
        Check.sentence("29: UNKNOWN: no such TAKER");
        Scene.bounds(Scene::whole, FourVault.UNKNOWN, 0, 0, 4, "ring", 0);
    }

    private static void unknownLeavesNoTrace() {
        Check.sentence("31: TRACE is left by TELLING and RINGING alone");
        int trace = Scene.whole().trace();
        Check.due("trace of the scene", trace, after(0, 3, 2, 1, 1, 4));
        for (int a : new int[] {-1, 5, MIN, MAX}) {
            FourVault x = Scene.whole();
            x.tell(a);
            x.ring(a);
            Check.due("trace behind nobody", x.trace(), trace);
        }
        FourVault x = Scene.whole();
        x.as(2, 1);
        x.as(0, 2);
        x.kinds(2);
        x.holds(2, 0);
        x.ofTaker(2, 0);
        x.trace();
        x.vault(0, 0, 0, 38);
        Check.due("trace behind others", x.trace(), trace);
    }

    private static void traceWraps() {
        Check.sentence("31: an int that wraps");
        FourVault x = Check.with("v0;t000/");
        int trace = 0;
        boolean wasBelow = false;
        for (int k = 0; k < 200; k++) {
            x.tell(0);
            trace = after(trace, 1);
            wasBelow |= trace < 0;
            Check.due("trace " + k, x.trace(), trace);
        }
        Check.due("it has wrapped", wasBelow ? 1 : 0, 1);
        FourVault y = Check.with("v0;t000/");
        long far = 0;
        for (int k = 0; k < 7; k++) {
            y.ring(0);
            far = 31 * far + 4;
        }
        Check.due("the first that does not fit", y.trace(), (int) far);
        Check.due("it does not", far > MAX ? 1 : 0, 1);
    }

    private static void as() {
        Check.sentence("30: UNKNOWN: no such TAKER");
        Scene.bounds(Scene::whole, FourVault.UNKNOWN, 0, 0, 4, "as", 0, 0);
        Check.sentence("30: OUTSIDE: kind (0 .. 2)");
        Scene.bounds(Scene::whole, FourVault.OUTSIDE, 1, 0, 2, "as", 2, 0);
        Check.sentence("30: UNKNOWN ahead of OUTSIDE, OUTSIDE ahead of CAST");
        Scene.refused(Scene::whole, FourVault.UNKNOWN, "as", 5, 3);
        Scene.refused(Scene::whole, FourVault.UNKNOWN, "as", -1, -1);
        Scene.refused(Scene::whole, FourVault.OUTSIDE, "as", 0, 3);
        Scene.refused(Scene::whole, FourVault.OUTSIDE, "as", 0, -1);
        Check.sentence("30: each is a TAKER, too");
        for (int a = 0; a < 5; a++) {
            Scene.asks(Scene::whole, 1, "as", a, 0);
        }
        Check.sentence("30: a SINGER is a SINGER, a WIDOW is a SINGER");
        Scene.asks(Scene::whole, 1, "as", 1, 1);
        Scene.asks(Scene::whole, 1, "as", 2, 1);
        Check.sentence("30: a WIDOW is a WIDOW");
        Scene.asks(Scene::whole, 1, "as", 2, 2);
        Check.sentence("30: CAST: a TAKER is no SINGER, no WIDOW");
        Scene.faults(Scene::whole, Scene.CAST, "as", 0, 1);
        Scene.faults(Scene::whole, Scene.CAST, "as", 0, 2);
        Check.sentence("30: CAST: a SINGER is no WIDOW");
        Scene.faults(Scene::whole, Scene.CAST, "as", 1, 2);
    }

    /** A whole scene whose latest fault is INDEX. */
    private static FourVault faulted() {
        FourVault x = Scene.whole();
        x.put(1, 6, 0);
        Check.due("fault ahead", x.fault(), Scene.INDEX);
        return x;
    }

    private static void leavesFault(int fault, String name, int... args) {
        FourVault x = faulted();
        Scene.ask(x, name, args);
        Check.due("fault() behind " + Scene.told(name, args), x.fault(), fault);
    }

    private static void faultOfCallsThatNameOne() {
        Check.sentence("32: 0: it came to none");
        leavesFault(0, "vault", 0, 0, 0, 38);
        leavesFault(0, "night", 1, 1, 0, 3, 0);
        leavesFault(0, "sheet", 3, 0, 0);
        leavesFault(0, "put", 0, 0, 0);
        leavesFault(0, "cell", 0, 0, 0);
        leavesFault(0, "copy", 0, 0, 0, 0, 0);
        leavesFault(0, "as", 0, 0);
        Check.sentence("32: 0: it came to none, though a TEXT or a NIGHT is wrong");
        leavesFault(0, "vault", 0, 0, 1, 37);
        leavesFault(0, "vault", 0, 0, 0, 0);
        FourVault wrong = Scene.whole();
        wrong.put(1, 3, 59);
        wrong.put(1, 5, 0);
        wrong.put(1, 6, 0);
        Check.due("night", wrong.night(1, 1, 0, 3, 0), -102);
        Check.due("fault behind a wrong night", wrong.fault(), 0);
        Check.sentence("32: 0: it was refused");
        leavesFault(0, "vault", 4, 0, 0, 0);
        leavesFault(0, "vault", 0, 3, 0, 0);
        leavesFault(0, "night", 4, 0, 0, 0, 0);
        leavesFault(0, "night", 1, 1, 0, 21, 0);
        leavesFault(0, "night", 2, 2, 0, 1, 0);
        leavesFault(0, "night", 2, 2, 1, 1, 0);
        leavesFault(0, "sheet", 4, 0, 0);
        leavesFault(0, "sheet", 0, 0, 61);
        leavesFault(0, "put", 4, 0, 0);
        leavesFault(0, "cell", 4, 0, 0);
        leavesFault(0, "cell", 0, 0, 3);
        leavesFault(0, "copy", 4, 0, 0, 0, 0);
        leavesFault(0, "copy", 0, 0, 4, 0, 0);
        leavesFault(0, "as", 5, 0);
        leavesFault(0, "as", 0, 3);
        Check.sentence("32: 0: STATE is a refusal");
        FourVault x = Scene.bare();
        x.put(1, 6, 0);
        Check.due("night", x.night(1, 1, 0, 3, 0), FourVault.STATE);
        Check.due("fault", x.fault(), 0);
    }

    private static void faultOfCallsThatNameNone() {
        String[] ofOne = {"depth", "gloom", "back", "minds", "kinds", "glooms", "lose", "tell", "ring", "many"};
        String[] ofTwo = {"ofTaker", "hush", "think", "brace", "drain", "holds", "best", "friend", "gets", "send"};
        String[] ofThree = {"together", "reading", "odds"};
        Check.sentence("32: the latest call that names one: others leave it, answered");
        for (String name : ofOne) {
            leavesFault(Scene.INDEX, name, 0);
        }
        for (String name : ofTwo) {
            leavesFault(Scene.INDEX, name, 0, 0);
        }
        for (String name : ofThree) {
            leavesFault(Scene.INDEX, name, 0, 1, 0);
        }
        leavesFault(Scene.INDEX, "trace");
        leavesFault(Scene.INDEX, "fault");
        Check.sentence("32: the latest call that names one: others leave it, refused");
        for (String name : ofOne) {
            leavesFault(Scene.INDEX, name, 9);
            leavesFault(Scene.INDEX, name, -1);
        }
        for (String name : ofTwo) {
            leavesFault(Scene.INDEX, name, 99, 0);
            leavesFault(Scene.INDEX, name, 0, 100);
        }
        for (String name : ofThree) {
            leavesFault(Scene.INDEX, name, 9, 1, 0);
            leavesFault(Scene.INDEX, name, 0, 99, 99);
        }
    }

    private static void faultOfEachKind() {
        Check.sentence("32: the FAULT of the latest call: 1 NULL, 2 CAST, 3 INDEX, 4 SIZE");
        leavesFault(1, "put", 3, 0, 0);
        leavesFault(2, "as", 0, 1);
        leavesFault(3, "cell", 0, 38, 0);
        leavesFault(4, "sheet", 0, 0, -1);
        Check.sentence("32: asking does not change it");
        FourVault x = faulted();
        x.fault();
        Check.due("asked again", x.fault(), 3);
    }

    private static void many() {
        Check.sentence("33: OUTSIDE: what (0 .. 3)");
        Scene.bounds(Scene::whole, FourVault.OUTSIDE, 0, 0, 3, "many", 0);
        Scene.bounds(FourVault::new, FourVault.OUTSIDE, 0, 0, 3, "many", 0);
        Check.sentence("33: 0 TAKERS, 1 GOODS, 2 PLACES, 3 READINGS");
        FourVault x = Check.with("v1234;t000;t000/123");
        x.reading(0, 0, 0);
        int[] due = {2, 3, 4, 1};
        for (int what = 0; what < 4; what++) {
            Check.due("many " + what, x.many(what), due[what]);
        }
        Check.sentence("33: 0 all without a VAULT, also when a TEXT was not taken");
        FourVault y = new FourVault();
        Check.due("vault", Check.vault(y, "v12;t000;t000/10"), -115);
        for (int what = 0; what < 4; what++) {
            Check.due("many " + what, y.many(what), 0);
        }
    }
}
