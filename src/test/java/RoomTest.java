import com.sun.management.ThreadMXBean;
import java.lang.management.ManagementFactory;

/** LANGUAGE.md, rule 12: what calls make is little. Bytes that the machine counts, of 512 calls alike. */
public final class RoomTest {
    private static final int CALLS = 512;
    /** Of the machine's own counting, in all: far less than the least object (16) in each of the calls. */
    private static final int SLACK = 2048;
    private static final ThreadMXBean MACHINE = (ThreadMXBean) ManagementFactory.getThreadMXBean();
    private static final String WRONG = "v306152;t254;s181;w302;t990;s007/136920";

    private interface Call {
        long on(FourVault x);
    }

    private static long sum = 0;

    public static void main(String[] args) {
        madeByVault();
        nothing("calls of the vault", x -> x.ofTaker(0, 1) + x.depth(0) + x.gloom(0) + x.hush(0, 3) + x.think(0, 4)
            + x.brace(0, 25) + x.drain(2, 99));
        nothing("calls of how long they hold", x -> x.holds(2, 59) + x.best(2, 1) + x.together(0, 2, 7) + x.friend(2, 7));
        nothing("night", x -> x.night(1, 1, 0, 3, 0) + x.night(1, 1, 0, 3, 1) + x.night(1, 1, 0, 3, 2)
            + x.night(1, 1, 0, 3, 3) + x.night(1, 1, 0, 3, 14));
        nothing("calls of goods", x -> x.gets(3, 0) + x.send(0, -1) + x.send(0, 4));
        nothing("calls of how long they held", x -> x.reading(4, 0, 0) + x.back(1) + x.minds(2) + x.glooms(5)
            + x.odds(2, 40, 0));
        nothing("calls of sheets", x -> x.lose(3) + x.put(2, 0, 7) + x.cell(2, 0, 2) + x.copy(2, 0, 2, 1, 2));
        nothing("calls of parts", x -> x.tell(2) + x.ring(2) + x.as(2, 1) + x.trace() + x.fault() + x.many(3));
        nothing("faults", x -> x.vault(3, 0, 0, 1) + x.night(0, 1, 0, 3, 0) + x.sheet(0, 0, -1) + x.put(2, 3, 0)
            + x.cell(2, 3, 2) + x.copy(0, 0, 1, 0, 1) + x.as(0, 2));
        atMost("kinds: three takers that are tried", 3 * 32, x -> x.kinds(2));
        atMost("sheet: a row of 60 ints at most", 32 + 256, x -> x.sheet(3, 2, 60));
        Check.due("a new object: some thousand bytes", bytesOf(x -> new FourVault().many(0)) < 4096L * CALLS ? 1 : 0, 1);
        Check.due("something was asked", sum == 0 ? 0 : 1, 1);
        Check.end("RoomTest");
    }

    private static void madeByVault() {
        atMost("vault: five takers", 5 * 32, x -> x.vault(0, 0, 0, Scene.TEXT.length()));
        FourVault x = Scene.whole();
        Check.row(x, 0, 0, Check.codes(WRONG));
        Check.due("vault " + WRONG, x.vault(0, 0, 0, WRONG.length()), -100 - Scene.TEXT.length());
        long made = bytesOf(x, y -> y.vault(0, 0, 0, WRONG.length()));
        Check.due("vault of a wrong TEXT makes nothing", made < SLACK ? 0 : made, 0);
    }

    private static void nothing(String what, Call call) {
        atMost(what, 0, call);
    }

    private static void atMost(String what, int bytes, Call call) {
        long made = bytesOf(call);
        Check.due(what + ": " + made + " bytes of " + CALLS + " calls", made < (long) bytes * CALLS + SLACK ? 1 : 0, 1);
    }

    private static long bytesOf(Call call) {
        return bytesOf(Scene.whole(), call);
    }

    /** The first two calls are left out, as the machine links and loads in them. */
    private static long bytesOf(FourVault x, Call call) {
        sum += call.on(x) + call.on(x);
        long ahead = MACHINE.getThreadAllocatedBytes(Thread.currentThread().getId());
        for (int k = 0; k < CALLS; k++) {
            sum += call.on(x);
        }
        return MACHINE.getThreadAllocatedBytes(Thread.currentThread().getId()) - ahead;
    }
}
