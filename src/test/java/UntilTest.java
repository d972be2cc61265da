/** Promise 9: until. */
public final class UntilTest {
    public static void main(String[] args) {
        leastAndMost();
        beyond();
        noneHasAnyNow();
        badThoughNoneHasAny();
        noMoreThanAreNeeded();
        noMoreThanAreTold();
        bothCranes();
        bothWaitForEver();
        Check.end();
    }

    /** "n (1 to 200) at most: how many": an order that waits for ever. */
    private static void leastAndMost() {
        HotAisle x = new HotAisle();
        Rig.give(x, 1, "set");
        Check.same("until(1)", x.until(1), 1);
        Check.same("count(0)", x.count(0), 1);
        Check.same("until(200)", x.until(200), 200);
        Check.same("count(0)", x.count(0), 201);
        Check.same("crane(1, 2)", x.crane(1, 2), 1);
        Check.same("crane(1, 4)", x.crane(1, 4), 201);
    }

    /** "BAD." */
    private static void beyond() {
        Refusal.bad("until(#)", 1, 200, HotAisle::until);
    }

    /** "(0, if none has any now)": no minute passes. */
    private static void noneHasAnyNow() {
        Refusal.ofCall("until(1)", HotAisle::new, x -> x.until(1), 0);
        Refusal.ofCall("until(200)", Rig::withMetal, x -> x.until(200), 0);
    }

    private static void badThoughNoneHasAny() {
        Check.same("until(0)", new HotAisle().until(0), HotAisle.BAD);
        Check.same("until(201)", new HotAisle().until(201), HotAisle.BAD);
    }

    /** "MINUTES until no CRANE has ORDERS": from 3 to 0 three of them, and one for the GO that is there. */
    private static void noMoreThanAreNeeded() {
        HotAisle x = new HotAisle();
        Rig.give(x, 0, "0");
        Check.same("until(200)", x.until(200), 4);
        Check.same("crane(0, 2)", x.crane(0, 2), 0);
        Check.same("count(0)", x.count(0), 4);
        Rig.give(x, 0, "0");
        Check.same("until(200) of one that is there", x.until(200), 1);
        Check.same("until(200)", x.until(200), 0);
    }

    /** The last of them may be the one in which the last order is done. */
    private static void noMoreThanAreTold() {
        HotAisle x = new HotAisle();
        Rig.give(x, 0, "0");
        Check.same("until(3)", x.until(3), 3);
        Check.same("crane(0, 0)", x.crane(0, 0), 0);
        Check.same("crane(0, 2)", x.crane(0, 2), 1);
        Check.same("until(1)", x.until(1), 1);
        Check.same("crane(0, 2)", x.crane(0, 2), 0);
    }

    private static void bothWaitForEver() {
        HotAisle x = new HotAisle();
        Rig.give(x, 0, "set");
        Rig.give(x, 1, "clean");
        Check.same("until(200)", x.until(200), 200);
        Check.same("crane(0, 4)", x.crane(0, 4), 200);
        Check.same("crane(1, 4)", x.crane(1, 4), 200);
    }

    /** "no CRANE": it waits for the last one, whichever that is. */
    private static void bothCranes() {
        HotAisle x = new HotAisle();
        Rig.give(x, 0, "1");
        Rig.give(x, 1, "15");
        Check.same("until(200)", x.until(200), 5);
        Check.same("crane(1, 2)", x.crane(1, 2), 0);
        Rig.give(x, 0, "9");
        Rig.give(x, 1, "14");
        Check.same("until(200)", x.until(200), 9);
        Check.same("crane(0, 2)", x.crane(0, 2), 0);
        Rig.give(x, 1, "13");
        Check.same("until(200) of crane 1 alone", x.until(200), 2);
    }
}
