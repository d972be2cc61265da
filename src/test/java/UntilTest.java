/** Promise 9: until. */
public final class UntilTest {
    public static void main(String[] args) {
        HotAisle x = new HotAisle();
        Check.same("until(5) with no orders", x.until(5), 0);
        int[] bad = {0, -1, 201, Integer.MIN_VALUE, Integer.MAX_VALUE};
        for (int n : bad) {
            Check.same("until(" + n + ") with no orders", x.until(n), HotAisle.BAD);
        }
        x.order(0, Rig.GO, 0);
        for (int n : bad) {
            Check.same("until(" + n + ")", x.until(n), HotAisle.BAD);
        }
        Check.same("count(0)", x.count(0), 0);
        Check.same("until(1)", x.until(1), 1);
        Check.same("crane(0, 0)", x.crane(0, 0), 2);
        Check.same("until(200)", x.until(200), 3);
        Check.same("crane(0, 2)", x.crane(0, 2), 0);
        Check.same("count(0)", x.count(0), 4);
        bothCranes(x);
        aWaitingOne(x);
        Check.end();
    }

    private static void bothCranes(HotAisle x) {
        Rig.give(x, 0, "1");
        Rig.give(x, 1, "15");
        Check.same("until(200) of two", x.until(200), 5);
        Check.same("crane(0, 2)", x.crane(0, 2), 0);
        Check.same("crane(1, 2)", x.crane(1, 2), 0);
        Rig.give(x, 1, "15");
        Check.same("until(1) of one that is there", x.until(1), 1);
        Check.same("until(1) behind it", x.until(1), 0);
    }

    private static void aWaitingOne(HotAisle x) {
        int before = x.count(0);
        Rig.give(x, 1, "set");
        Check.same("until(200) of one that waits", x.until(200), 200);
        Check.same("crane(1, 2)", x.crane(1, 2), 1);
        Check.same("crane(1, 4)", x.crane(1, 4), 200);
        Check.same("count(0)", x.count(0), before + 200);
    }
}
