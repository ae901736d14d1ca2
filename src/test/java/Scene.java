import java.lang.reflect.InvocationTargetException;
import java.lang.reflect.Method;
import java.util.Arrays;
import java.util.List;
import java.util.function.Supplier;

/**
 * Objects in which every part has something, and what the tests of edges ask of them: each call is made on a
 * scene of its own, and all that can be seen of it is compared with that of a twin that was not asked.
 */
final class Scene {
    static final int NULL = 1, CAST = 2, INDEX = 3, SIZE = 4;
    /** As much as a TEXT can tell. */
    static final String TEXT = "v306152;t254;s181;w302;t990;s007/13692";
    static final int[] PAIRS = {0, 0, 1, 2, 2, 59};
    private static final List<String> NAMING_FAULTS = List.of("vault", "night", "sheet", "put", "cell", "copy", "as");

    private Scene() {
    }

    /** Sheets 0, 1, 2 have a text (bytes), a night of three pairs (shorts), some ints; sheet 3 has nothing. */
    static FourVault bare() {
        FourVault x = new FourVault();
        Check.row(x, 0, 0, Check.codes(TEXT));
        Check.row(x, 1, 1, PAIRS);
        Check.row(x, 2, 2, 70000, -7, 0);
        return x;
    }

    /** Glooms 3 4 6 1 5 2; t25 of mind 5, s17 of 1, w30 of 2, t99 of 0, s00 of 7; depths 1 3 6 9 2; 3 readings. */
    static FourVault whole() {
        FourVault x = bare();
        x.vault(0, 0, 0, TEXT.length());
        x.hush(1, 4);
        x.think(0, 5);
        x.brace(1, 17);
        for (int a = 0; a < 3; a++) {
            x.reading(a, 7 * a, x.holds(a, 7 * a));
        }
        x.tell(2);
        x.ring(0);
        return x;
    }

    static FourVault full() {
        FourVault x = whole();
        for (int k = 3; k < 8; k++) {
            x.reading(k % 5, k, x.holds(k % 5, k));
        }
        return x;
    }

    static String told(String name, int... args) {
        return name + Arrays.toString(args).replace('[', '(').replace(']', ')');
    }

    static long ask(FourVault x, String name, int... args) {
        Object[] given = Arrays.stream(args).boxed().toArray();
        for (Method method : FourVault.class.getDeclaredMethods()) {
            if (method.getName().equals(name)) {
                return answer(x, method, given);
            }
        }
        throw new AssertionError("there is no call " + name);
    }

    private static long answer(FourVault x, Method method, Object[] given) {
        try {
            return ((Number) method.invoke(x, given)).longValue();
        } catch (InvocationTargetException e) {
            throw new AssertionError(method.getName() + Arrays.toString(given) + " threw", e.getCause());
        } catch (IllegalAccessException e) {
            throw new AssertionError(e);
        }
    }

    // what a call leaves

    /** The call answers so, fault() is as told (-1: the call names no FAULTS, it stays), all else is as it was. */
    private static void leavesAll(Supplier<FourVault> scene, long want, int fault, String name, int... args) {
        FourVault x = scene.get();
        FourVault twin = scene.get();
        if (fault == SIZE) {
            x.put(3, -1, 0);
        } else {
            x.sheet(3, 0, -1);
        }
        int ahead = x.fault();
        Check.due("there is another fault ahead", ahead == 0 || ahead == fault ? 0 : 1, 1);
        Check.due(told(name, args), ask(x, name, args), want);
        Check.due("fault() behind " + told(name, args), x.fault(), fault == -1 ? ahead : fault);
        Check.same("all that is seen behind " + told(name, args), seen(x), seen(twin));
    }

    private static boolean namesFaults(String name) {
        return NAMING_FAULTS.contains(name);
    }

    private static boolean answersLong(String name) {
        return name.equals("cell") || name.equals("odds");
    }

    /** The call answers so and changes nothing (but fault(), if it names FAULTS). */
    static void asks(Supplier<FourVault> scene, long want, String name, int... args) {
        leavesAll(scene, want, namesFaults(name) ? 0 : -1, name, args);
    }

    static void refused(Supplier<FourVault> scene, int refusal, String name, int... args) {
        asks(scene, answersLong(name) ? Check.LOST : refusal, name, args);
    }

    static void faults(Supplier<FourVault> scene, int fault, String name, int... args) {
        leavesAll(scene, answersLong(name) ? Check.LOST : -10 - fault, fault, name, args);
    }

    private static boolean isTaken(long answer) {
        return answer != Check.LOST && !(answer <= -1 && answer >= -4) && !(answer <= -11 && answer >= -14);
    }

    private static int[] with(int[] args, int at, int v) {
        int[] other = args.clone();
        other[at] = v;
        return other;
    }

    /** Of the call's number at a place low and high are taken; what is beyond them is refused so. */
    static void bounds(Supplier<FourVault> scene, int refusal, int at, int low, int high, String name, int... args) {
        for (int v : new int[] {low, high}) {
            FourVault x = scene.get();
            int[] taken = with(args, at, v);
            Check.due(told(name, taken) + " is taken", isTaken(ask(x, name, taken)) ? 1 : 0, 1);
            Check.due("fault() behind " + told(name, taken), x.fault(), 0);
        }
        for (int v : new int[] {low - 1, high + 1, Integer.MIN_VALUE, Integer.MAX_VALUE}) {
            refused(scene, refusal, name, with(args, at, v));
        }
    }

    // all that can be seen

    /** All but fault(): the object is used up by it, as readings are taken back one by one. */
    static String seen(FourVault x) {
        int takers = x.many(0);
        int goods = x.many(1);
        int places = x.many(2);
        StringBuilder seen = new StringBuilder("trace ").append(x.trace());
        for (int k = 0; k < places; k++) {
            seen.append(" gloom ").append(x.gloom(k));
        }
        for (int a = 0; a < takers; a++) {
            seen.append(" taker");
            for (int what = 0; what < 3; what++) {
                seen.append(' ').append(x.ofTaker(a, what));
            }
        }
        for (int g = 0; g < goods; g++) {
            seen.append(" depth ").append(x.depth(g));
        }
        for (int k = 0; k < 4; k++) {
            seen.append(" sheet").append(seenRow(x, k));
        }
        return seen.append(seenReadings(x, takers, places)).toString();
    }

    static String seenRow(FourVault x, int k) {
        for (int lane = 0; lane < 3; lane++) {
            long first = x.cell(k, 0, lane);
            if (x.fault() == NULL) {
                return " nothing";
            }
            if (x.fault() != CAST) {
                return " lane " + lane + " of" + seenCells(x, k, lane, first);
            }
        }
        return " no lane";
    }

    private static String seenCells(FourVault x, int k, int lane, long first) {
        StringBuilder seen = new StringBuilder();
        long cell = first;
        for (int i = 1; cell != Check.LOST && i < 62; i++) {
            seen.append(' ').append(cell);
            cell = x.cell(k, i, lane);
        }
        return seen.toString();
    }

    private static String seenReadings(FourVault x, int takers, int places) {
        StringBuilder seen = new StringBuilder();
        for (int left = x.many(3); left >= 0; left--) {
            seen.append(" by ").append(left);
            for (int a = 0; a < takers; a++) {
                seen.append(' ').append(x.minds(a)).append(' ').append(x.kinds(a));
            }
            for (int k = 0; k < places; k++) {
                seen.append(' ').append(x.glooms(k));
            }
            x.back(left == 0 ? 0 : 1);
        }
        return seen.toString();
    }
}
