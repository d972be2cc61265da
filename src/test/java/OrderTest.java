/** Promise 6: order. */
public final class OrderTest {
    private static final int[] BAD_ONES = {-1, Integer.MIN_VALUE, Integer.MAX_VALUE};

    public static void main(String[] args) {
        wrong();
        upToEight();
        placeOnlyForGo();
        oneBehindTheOther();
        Check.end();
    }

    private static void wrong() {
        HotAisle x = new HotAisle();
        for (int bad : BAD_ONES) {
            Check.same("order(" + bad + ", 0, 0)", x.order(bad, 0, 0), HotAisle.BAD);
            Check.same("order(0, " + bad + ", 0)", x.order(0, bad, 0), HotAisle.BAD);
            Check.same("order(0, 0, " + bad + ")", x.order(0, 0, bad), HotAisle.BAD);
        }
        Check.same("order(2, 0, 0)", x.order(2, 0, 0), HotAisle.BAD);
        Check.same("order(0, 8, 0)", x.order(0, 8, 0), HotAisle.BAD);
        Check.same("order(0, 0, 16)", x.order(0, 0, 16), HotAisle.BAD);
        Check.same("crane(0, 2)", x.crane(0, 2), 0);
        Check.same("crane(1, 2)", x.crane(1, 2), 0);
    }

    private static void upToEight() {
        HotAisle x = new HotAisle();
        for (int i = 1; i <= 8; i++) {
            Check.same("order " + i, x.order(1, i - 1, 15), i);
        }
        Check.same("order 9", x.order(1, 0, 0), HotAisle.FULL);
        Check.same("order 9, of none that is told", x.order(1, 8, 0), HotAisle.BAD);
        Check.same("order 9, to no place", x.order(1, 0, 16), HotAisle.BAD);
        Check.same("crane(1, 2)", x.crane(1, 2), 8);
        Check.same("crane(1, 3)", x.crane(1, 3), 0);
        Check.same("order of the other one", x.order(0, 0, 0), 1);
        Check.same("crane(0, 2)", x.crane(0, 2), 1);
    }

    private static void placeOnlyForGo() {
        HotAisle x = new HotAisle();
        for (int what = 1; what < 8; what++) {
            for (int bad : BAD_ONES) {
                Check.same("order(0, " + what + ", " + bad + ")", x.order(0, what, bad), 1);
                Check.same("drop(0)", x.drop(0), 1);
            }
        }
        for (int place = 0; place < 16; place++) {
            Check.same("order(1, 0, " + place + ")", x.order(1, 0, place), 1);
            x.drop(1);
        }
        // A GO behind them must not see the place that they were told.
        x.order(0, Rig.TAKE, 9);
        x.minutes(1);
        Check.same("crane(0, 0)", x.crane(0, 0), 3);
    }

    private static void oneBehindTheOther() {
        HotAisle x = new HotAisle();
        Check.same("orders given", Rig.give(x, 0, "1 take 3 set 5 3 take 2"), 8);
        x.minutes(2);
        Check.same("place", x.crane(0, 0), 1);
        Check.same("orders when there", x.crane(0, 2), 8);
        x.minutes(1);
        Check.same("orders behind the take", x.crane(0, 2), 6);
        Check.same("first one", x.crane(0, 3), Rig.GO);
        x.minutes(2);
        Check.same("orders when there", x.crane(0, 2), 6);
        Check.same("place", x.crane(0, 0), 3);
        x.minutes(1);
        Check.same("orders behind the set", x.crane(0, 2), 4);
        x.minutes(2);
        Check.same("place", x.crane(0, 0), 5);
        // Its minute goes to the step of the next GO, for one that is there is done at once.
        x.minutes(1);
        Check.same("place", x.crane(0, 0), 4);
        Check.same("orders", x.crane(0, 2), 3);
        x.minutes(2);
        Check.same("first one behind the take", x.crane(0, 3), Rig.GO);
        Check.same("ladle(0, 0)", x.ladle(0, 0), 3);
        x.minutes(1);
        Check.same("ladle(0, 0)", x.ladle(0, 0), 2);
        x.minutes(1);
        Check.same("orders at last", x.crane(0, 2), 0);
        Check.same("count(6)", x.count(6), 8);
    }
}
