import java.util.function.Supplier;
import java.util.function.ToIntFunction;

/**
 * What is refused: "nothing changes then". Each check makes two aisles alike and asks one of them alone. Then both must
 * give the same answers, at once and later: what no call asks for (the orders behind the first one, the states
 * kept) shows later.
 */
final class Refusal {
    private static final int NO_INDEX = -1;

    private Refusal() {
    }

    /** A call with one number in question. */
    interface Asked {
        int of(HotAisle x, int n);
    }

    /** The next numbers beyond least and most, and the least and the most of an int: BAD, each in the place of #. */
    static void bad(String call, int least, int most, Asked asked) {
        int[] beyond = {least - 1, most + 1, Integer.MIN_VALUE, Integer.MAX_VALUE};
        for (int n : beyond) {
            ofCall(call.replace("#", String.valueOf(n)), Rig::busy, x -> asked.of(x, n), HotAisle.BAD);
        }
    }

    /** A call answers what is due, and nothing changes. */
    static void ofCall(String call, Supplier<HotAisle> made, ToIntFunction<HotAisle> asked, int due) {
        HotAisle one = made.get();
        HotAisle twin = made.get();
        Check.same(call, asked.applyAsInt(one), due);
        alike(call, one, twin, NO_INDEX);
        Check.same(call + ", until(60)", one.until(60), twin.until(60));
        Check.same(call + ", minutes(1)", one.minutes(1), twin.minutes(1));
        alike(call + ", until(60)", one, twin, NO_INDEX);
        for (int i = 0; i < 8; i++) {
            Check.same(call + ", back()", one.back(), twin.back());
        }
        alike(call + ", back()", one, twin, NO_INDEX);
    }

    /** A crane without orders is given one that can't be done: it waits, each minute once, and all else is as without it. */
    static void ofOrder(String name, Supplier<HotAisle> made, int crane, String order) {
        String call = order + " " + name;
        HotAisle one = made.get();
        HotAisle twin = made.get();
        int waits = one.crane(crane, 4);
        Check.same(call + ": orders", Rig.give(one, crane, order), 1);
        Check.same(call + ": done", one.minutes(2), 0);
        twin.minutes(2);
        Check.same(call + ": waits", one.crane(crane, 4), waits + 2);
        Check.same(call + ": drop", one.drop(crane), 1);
        alike(call, one, twin, Rig.indexOfWaits(crane));
    }

    private static void alike(String call, HotAisle one, HotAisle twin, int except) {
        int[] got = Rig.answers(one);
        int[] due = Rig.answers(twin);
        for (int i = 0; i < due.length; i++) {
            if (i != except) {
                Check.same(call + ": then answer " + i, got[i], due[i]);
            }
        }
    }
}
