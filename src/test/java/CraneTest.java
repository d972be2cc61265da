/** Promise 10: crane. */
public final class CraneTest {
    public static void main(String[] args) {
        HotAisle x = new HotAisle();
        int[] bad = {-1, 2, Integer.MIN_VALUE, Integer.MAX_VALUE};
        for (int crane : bad) {
            Check.same("crane(" + crane + ", 0)", x.crane(crane, 0), HotAisle.BAD);
            Check.same("crane(" + crane + ", 1)", x.crane(crane, 1), HotAisle.BAD);
        }
        int[] badOnes = {-1, 5, 6, Integer.MIN_VALUE, Integer.MAX_VALUE};
        for (int what : badOnes) {
            Check.same("crane(0, " + what + ")", x.crane(0, what), HotAisle.BAD);
            Check.same("crane(1, " + what + ")", x.crane(1, what), HotAisle.BAD);
        }
        firstOrders();
        carriesAndWaits();
        Check.end();
    }

    private static void firstOrders() {
        HotAisle x = new HotAisle();
        for (int what = 0; what < 8; what++) {
            x.order(1, what, 15);
            x.order(1, Rig.SKIM, 15);
            Check.same("crane(1, 2)", x.crane(1, 2), 2);
            Check.same("crane(1, 3)", x.crane(1, 3), what);
            Check.same("crane(0, 3)", x.crane(0, 3), HotAisle.NONE);
            x.drop(1);
            Check.same("crane(1, 3) behind drop(1)", x.crane(1, 3), HotAisle.NONE);
        }
    }

    private static void carriesAndWaits() {
        HotAisle x = new HotAisle();
        Rig.done(x, 0, "6 take");
        Rig.done(x, 1, "14 take 15");
        Check.same("crane(0, 0)", x.crane(0, 0), 6);
        Check.same("crane(0, 1)", x.crane(0, 1), 1);
        Check.same("crane(1, 0)", x.crane(1, 0), 15);
        Check.same("crane(1, 1)", x.crane(1, 1), 3);
        Rig.give(x, 1, "set");
        x.minutes(4);
        Check.same("crane(1, 4)", x.crane(1, 4), 4);
        Check.same("crane(0, 4)", x.crane(0, 4), 0);
        x.drop(1);
        x.minutes(4);
        Check.same("crane(1, 4) with no orders", x.crane(1, 4), 4);
        Rig.done(x, 0, "set");
        Check.same("crane(0, 1)", x.crane(0, 1), HotAisle.NONE);
    }
}
