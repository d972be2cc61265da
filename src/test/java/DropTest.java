/** Promise 7: drop. */
public final class DropTest {
    public static void main(String[] args) {
        noneAndOneAndEight();
        thoseOfTheOtherStay();
        beyond();
        noneIsDone();
        keepsTheLadle();
        waitsStay();
        Check.end();
    }

    /** "All ORDERS of a CRANE go: how many." */
    private static void noneAndOneAndEight() {
        for (int crane = 0; crane < 2; crane++) {
            HotAisle x = new HotAisle();
            Check.same("drop(" + crane + ") of none", x.drop(crane), 0);
            x.order(crane, Rig.GO, 5);
            Check.same("drop(" + crane + ") of one", x.drop(crane), 1);
            Rig.give(x, crane, "1 take 2 3 5 set 6 take");
            Check.same("drop(" + crane + ") of eight", x.drop(crane), 8);
            Check.same("count(6): none of them is done", x.count(6), 0);
            Check.same("drop(" + crane + ") of none", x.drop(crane), 0);
            Check.same("crane(" + crane + ", 2)", x.crane(crane, 2), 0);
            Check.same("crane(" + crane + ", 3)", x.crane(crane, 3), HotAisle.NONE);
        }
    }

    private static void thoseOfTheOtherStay() {
        HotAisle x = new HotAisle();
        Rig.give(x, 0, "1 take 0");
        Rig.give(x, 1, "15 14");
        Check.same("drop(0)", x.drop(0), 3);
        Check.same("crane(1, 2)", x.crane(1, 2), 2);
        Check.same("drop(1)", x.drop(1), 2);
        Rig.give(x, 0, "2");
        Check.same("drop(1)", x.drop(1), 0);
        Check.same("crane(0, 2)", x.crane(0, 2), 1);
    }

    /** "BAD." */
    private static void beyond() {
        Refusal.bad("drop(#)", 0, 1, HotAisle::drop);
    }

    private static void noneIsDone() {
        HotAisle x = new HotAisle();
        Rig.give(x, 0, "1 take 0");
        x.drop(0);
        Check.same("minutes(9)", x.minutes(9), 0);
        Check.same("crane(0, 0)", x.crane(0, 0), 3);
        Check.same("crane(0, 4)", x.crane(0, 4), 0);
        Check.same("count(6)", x.count(6), 0);
        Check.same("until(9)", x.until(9), 0);
    }

    private static void keepsTheLadle() {
        HotAisle x = new HotAisle();
        Rig.give(x, 0, "1 take 5 set");
        x.minutes(4);
        Check.same("drop(0)", x.drop(0), 2);
        Check.same("crane(0, 1)", x.crane(0, 1), 0);
        Check.same("crane(0, 0)", x.crane(0, 0), 2);
        Check.same("order(0, 0, 5)", x.order(0, Rig.GO, 5), 1);
        Check.same("until(20)", x.until(20), 4);
        Check.same("ladle(0, 0)", x.ladle(0, 0), 5);
    }

    /** WAITS are those of the crane, not of its orders. */
    private static void waitsStay() {
        for (int crane = 0; crane < 2; crane++) {
            HotAisle x = new HotAisle();
            Rig.give(x, crane, "set set set set set set set set");
            x.minutes(9);
            Check.same("drop(" + crane + ")", x.drop(crane), 8);
            Check.same("crane(" + crane + ", 4)", x.crane(crane, 4), 9);
            Rig.give(x, crane, "clean");
            x.minutes(1);
            Check.same("crane(" + crane + ", 4)", x.crane(crane, 4), 10);
        }
    }
}
