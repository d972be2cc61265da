/** Promise 6: order. */
public final class OrderTest {
    public static void main(String[] args) {
        firstAndLastOfEach();
        beyond();
        beyondOfThePlace();
        placeIsLookedAtForGoAlone();
        eightAtMost();
        eightForEachCrane();
        roomAgain();
        badBeforeFull();
        oneBehindTheOther();
        eightThatAreNoGo();
        Check.end();
    }

    /** "An ORDER behind those of a CRANE ..: how many": CRANES 0 and 1, ORDERS 0 to 7, PLACES 0 to 15. */
    private static void firstAndLastOfEach() {
        HotAisle x = new HotAisle();
        for (int crane = 0; crane < 2; crane++) {
            for (int what = 0; what < 8; what++) {
                Check.same("order(" + crane + ", " + what + ", 3)", x.order(crane, what, 3), what + 1);
            }
            x.drop(crane);
            for (int place = 0; place < 16; place++) {
                Check.same("order(" + crane + ", 0, " + place + ")", x.order(crane, 0, place), place % 8 + 1);
                if (place == 7) {
                    x.drop(crane);
                }
            }
            Check.same("crane(" + crane + ", 2)", x.crane(crane, 2), 8);
        }
    }

    /** "BAD": a CRANE or an ORDER that there is none of. Crane 1 has room for three more. */
    private static void beyond() {
        Refusal.bad("order(#, 0, 0)", 0, 1, (x, n) -> x.order(n, 0, 0));
        Refusal.bad("order(#, 7, 0)", 0, 1, (x, n) -> x.order(n, 7, 0));
        Refusal.bad("order(1, #, 0)", 0, 7, (x, n) -> x.order(1, n, 0));
    }

    /** "BAD": a PLACE beyond 0 to 15, for GO. */
    private static void beyondOfThePlace() {
        Refusal.bad("order(1, 0, #)", 0, 15, (x, n) -> x.order(1, 0, n));
    }

    /** "(the PLACE for GO; else not looked at)". */
    private static void placeIsLookedAtForGoAlone() {
        int[] noPlaces = {-1, 16, Integer.MIN_VALUE, Integer.MAX_VALUE};
        for (int what = 1; what < 8; what++) {
            for (int place : noPlaces) {
                Check.same("order(0, " + what + ", " + place + ")", new HotAisle().order(0, what, place), 1);
            }
        }
        // It is done where the crane is, wherever the place that was told.
        HotAisle x = Rig.then(new HotAisle(), 0, "6");
        x.order(0, Rig.TAKE, 1);
        Check.same("minutes(1)", x.minutes(1), 1);
        Check.same("crane(0, 0)", x.crane(0, 0), 6);
        Check.same("crane(0, 1)", x.crane(0, 1), 1);
    }

    /** "ORDERS, 8 at most"; "FULL: 8." */
    private static void eightAtMost() {
        Check.same("order 8", holding(7).order(1, Rig.SKIM, 0), 8);
        Refusal.ofCall("order(1, 5, 0), the ninth", () -> holding(8), x -> x.order(1, Rig.SKIM, 0), HotAisle.FULL);
        Refusal.ofCall("order(1, 0, 15), the ninth", () -> holding(8), x -> x.order(1, Rig.GO, 15), HotAisle.FULL);
        // No place is looked at, so none is BAD.
        Refusal.ofCall("order(1, 7, 99), the ninth", () -> holding(8), x -> x.order(1, Rig.CLEAN, 99), HotAisle.FULL);
        Refusal.ofCall("order(0, 0, 0), busy", Rig::busy, x -> x.order(0, Rig.GO, 0), HotAisle.FULL);
    }

    private static void eightForEachCrane() {
        HotAisle x = holding(8);
        Check.same("order of the other crane", x.order(0, Rig.GO, 0), 1);
        Check.same("crane(0, 2)", x.crane(0, 2), 1);
        Check.same("crane(1, 2)", x.crane(1, 2), 8);
    }

    /** One that is done makes room for one, and drop() for all. */
    private static void roomAgain() {
        HotAisle x = new HotAisle();
        Rig.give(x, 0, "2 3 2 3 2 3 2 3");
        Check.same("order(0, 0, 9)", x.order(0, Rig.GO, 9), HotAisle.FULL);
        Check.same("minutes(2)", x.minutes(2), 1);
        Check.same("order(0, 0, 9)", x.order(0, Rig.GO, 9), 8);
        Check.same("order(0, 0, 9)", x.order(0, Rig.GO, 9), HotAisle.FULL);
        Check.same("drop(0)", x.drop(0), 8);
        Check.same("order(0, 0, 9)", x.order(0, Rig.GO, 9), 1);
    }

    /** "Of several the first": BAD, with eight orders too. */
    private static void badBeforeFull() {
        Refusal.bad("order(0, #, 0), eight", 0, 7, (x, n) -> x.order(0, n, 0));
        Refusal.bad("order(0, 0, #), eight", 0, 15, (x, n) -> x.order(0, 0, n));
        Refusal.ofCall("order(2, 8, 16)", Rig::busy, x -> x.order(2, 8, 16), HotAisle.BAD);
    }

    /** "done one behind the other". */
    private static void oneBehindTheOther() {
        HotAisle x = new HotAisle();
        Check.same("orders given", Rig.give(x, 0, "1 take 3 set 5 3 take 2"), 8);
        x.minutes(2);
        Check.same("place", x.crane(0, 0), 1);
        Check.same("orders when there", x.crane(0, 2), 8);
        x.minutes(1);
        Check.same("orders behind the take", x.crane(0, 2), 6);
        Check.same("first one", x.crane(0, 3), Rig.GO);
        x.minutes(2);
        Check.same("orders when there", x.crane(0, 2), 6);
        Check.same("place", x.crane(0, 0), 3);
        x.minutes(1);
        Check.same("orders behind the set", x.crane(0, 2), 4);
        x.minutes(2);
        Check.same("place", x.crane(0, 0), 5);
        // Its minute goes to the step of the next GO, for one that is there is done at once.
        x.minutes(1);
        Check.same("place", x.crane(0, 0), 4);
        Check.same("orders", x.crane(0, 2), 3);
        x.minutes(2);
        Check.same("first one behind the take", x.crane(0, 3), Rig.GO);
        Check.same("ladle(0, 0)", x.ladle(0, 0), 3);
        x.minutes(1);
        Check.same("ladle(0, 0)", x.ladle(0, 0), 2);
        x.minutes(1);
        Check.same("orders at last", x.crane(0, 2), 0);
        Check.same("count(6)", x.count(6), 8);
    }

    /** One is done in each minute, the first of eight too. */
    private static void eightThatAreNoGo() {
        int[] places = {1, 14};
        for (int crane = 0; crane < 2; crane++) {
            HotAisle x = Rig.then(new HotAisle(), crane, String.valueOf(places[crane]));
            Rig.give(x, crane, "take set take set take set take set");
            for (int left = 7; left >= 0; left--) {
                Check.same("minutes(1)", x.minutes(1), 1);
                Check.same("crane(" + crane + ", 2)", x.crane(crane, 2), left);
                Check.same("crane(" + crane + ", 1)", x.crane(crane, 1), left % 2 == 0 ? HotAisle.NONE : 3 * crane);
            }
            Check.same("crane(" + crane + ", 4)", x.crane(crane, 4), 0);
            // Behind one that can't be done all wait.
            Rig.give(x, crane, "set take set take set take set take");
            Check.same("minutes(3)", x.minutes(3), 0);
            Check.same("crane(" + crane + ", 2)", x.crane(crane, 2), 8);
        }
    }

    /** Crane 1 with so many orders, which move it to and fro, and at last to 14. */
    private static HotAisle holding(int orders) {
        HotAisle x = new HotAisle();
        for (int i = 1; i <= orders; i++) {
            Check.same("order " + i, x.order(1, Rig.GO, i < orders ? 12 + i % 2 : 14), i);
        }
        return x;
    }
}
