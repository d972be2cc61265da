/** Promise 7: drop. */
public final class DropTest {
    public static void main(String[] args) {
        HotAisle x = new HotAisle();
        int[] bad = {-1, 2, Integer.MIN_VALUE, Integer.MAX_VALUE};
        Check.same("drop(0) of none", x.drop(0), 0);
        Rig.give(x, 0, "1 take 0");
        Rig.give(x, 1, "15 14");
        for (int crane : bad) {
            Check.same("drop(" + crane + ")", x.drop(crane), HotAisle.BAD);
        }
        Check.same("crane(0, 2)", x.crane(0, 2), 3);
        Check.same("drop(0)", x.drop(0), 3);
        Check.same("crane(0, 2)", x.crane(0, 2), 0);
        Check.same("crane(0, 3)", x.crane(0, 3), HotAisle.NONE);
        Check.same("crane(1, 2)", x.crane(1, 2), 2);
        Check.same("drop(0)", x.drop(0), 0);
        x.minutes(1);
        Check.same("crane(0, 0)", x.crane(0, 0), 3);
        Check.same("drop(1)", x.drop(1), 2);
        Check.same("count(6)", x.count(6), 0);
        Check.same("until(9)", x.until(9), 0);
        keepsTheLadle();
        Check.end();
    }

    private static void keepsTheLadle() {
        HotAisle x = new HotAisle();
        Rig.give(x, 0, "1 take 5 set");
        x.minutes(4);
        Check.same("drop(0)", x.drop(0), 2);
        Check.same("crane(0, 1)", x.crane(0, 1), 0);
        Check.same("crane(0, 0)", x.crane(0, 0), 2);
        Check.same("order(0, 0, 5)", x.order(0, Rig.GO, 5), 1);
        Check.same("until(20)", x.until(20), 4);
        Check.same("ladle(0, 0)", x.ladle(0, 0), 5);
    }
}
