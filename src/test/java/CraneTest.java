/** Promise 10: crane. */
public final class CraneTest {
    public static void main(String[] args) {
        beyond();
        place();
        ladle();
        orders();
        firstOrder();
        waits();
        Check.end();
    }

    /** "BAD." */
    private static void beyond() {
        for (int i = 0; i < 5; i++) {
            int what = i;
            Refusal.bad("crane(#, " + what + ")", 0, 1, (x, n) -> x.crane(n, what));
        }
        Refusal.bad("crane(0, #)", 0, 4, (x, n) -> x.crane(0, n));
        Refusal.bad("crane(1, #)", 0, 4, (x, n) -> x.crane(1, n));
        Refusal.ofCall("crane(2, 5)", Rig::busy, x -> x.crane(2, 5), HotAisle.BAD);
    }

    /** "0 PLACE". */
    private static void place() {
        HotAisle x = new HotAisle();
        Rig.done(x, 0, "0");
        Rig.done(x, 1, "15");
        Check.same("crane(0, 0)", x.crane(0, 0), 0);
        Check.same("crane(1, 0)", x.crane(1, 0), 15);
    }

    /** "1 the LADLE (NONE)". */
    private static void ladle() {
        HotAisle x = new HotAisle();
        Rig.done(x, 0, "1 take");
        Check.same("crane(0, 1) of ladle 0", x.crane(0, 1), 0);
        Check.same("crane(1, 1)", x.crane(1, 1), HotAisle.NONE);
        Rig.done(x, 1, "14 take 15");
        Check.same("crane(1, 1) of ladle 3", x.crane(1, 1), 3);
        Check.same("crane(0, 1)", x.crane(0, 1), 0);
        Rig.done(x, 0, "set");
        Check.same("crane(0, 1)", x.crane(0, 1), HotAisle.NONE);
        Rig.done(x, 0, "6 take");
        Check.same("crane(0, 1) of ladle 1", x.crane(0, 1), 1);
        Check.same("crane(1, 1)", x.crane(1, 1), 3);
    }

    /** "2 ORDERS": none to eight. */
    private static void orders() {
        HotAisle x = new HotAisle();
        for (int i = 1; i <= 8; i++) {
            x.order(1, Rig.GO, 11);
            Check.same("crane(1, 2)", x.crane(1, 2), i);
            Check.same("crane(0, 2)", x.crane(0, 2), 0);
        }
        x.minutes(1);
        Check.same("crane(1, 2)", x.crane(1, 2), 0);
    }

    /** "3 what the first one is (NONE)": the first one, not the latest. */
    private static void firstOrder() {
        HotAisle x = new HotAisle();
        for (int what = 0; what < 8; what++) {
            x.order(1, what, 15);
            x.order(1, 7 - what, 15);
            Check.same("crane(1, 3)", x.crane(1, 3), what);
            Check.same("crane(0, 3)", x.crane(0, 3), HotAisle.NONE);
            x.drop(1);
            Check.same("crane(1, 3) behind drop(1)", x.crane(1, 3), HotAisle.NONE);
        }
        Rig.give(x, 0, "3 skim");
        x.minutes(1);
        Check.same("crane(0, 3) when the GO is done", x.crane(0, 3), Rig.SKIM);
    }

    /** "4 WAITS": ever, of each crane. */
    private static void waits() {
        HotAisle x = new HotAisle();
        Rig.give(x, 1, "set");
        x.minutes(4);
        Check.same("crane(1, 4)", x.crane(1, 4), 4);
        Check.same("crane(0, 4)", x.crane(0, 4), 0);
        x.drop(1);
        x.minutes(4);
        Check.same("crane(1, 4) with no orders", x.crane(1, 4), 4);
        Rig.give(x, 0, "take");
        x.minutes(1);
        Check.same("crane(0, 4)", x.crane(0, 4), 1);
        Check.same("crane(1, 4)", x.crane(1, 4), 4);
    }
}
