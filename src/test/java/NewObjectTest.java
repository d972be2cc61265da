/** Promise 1: A new object. */
public final class NewObjectTest {
    public static void main(String[] args) {
        cranes();
        ladles();
        vessels();
        booksAndCounts();
        notFedAndLimitTwelve();
        noStateIsKept();
        standsAlone();
        fiveHundredAndTwelveCalls();
        constants();
        Check.end();
    }

    /** "CRANES 0 and 1 are at PLACES 3, 11 at first": without a LADLE, without ORDERS. */
    private static void cranes() {
        HotAisle x = new HotAisle();
        Check.same("crane(0, 0)", x.crane(0, 0), 3);
        Check.same("crane(1, 0)", x.crane(1, 0), 11);
        for (int crane = 0; crane < 2; crane++) {
            Check.same("ladle of crane " + crane, x.crane(crane, 1), HotAisle.NONE);
            Check.same("orders of crane " + crane, x.crane(crane, 2), 0);
            Check.same("first order of crane " + crane, x.crane(crane, 3), HotAisle.NONE);
            Check.same("waits of crane " + crane, x.crane(crane, 4), 0);
        }
    }

    /** "LADLES 0 to 3 stand on FLOOR at 1, 6, 10, 14 at first, empty"; "a SKULL of 0 to 20 (0 at first)". */
    private static void ladles() {
        HotAisle x = new HotAisle();
        int[] places = {1, 6, 10, 14};
        for (int ladle = 0; ladle < 4; ladle++) {
            Check.same("place of ladle " + ladle, x.ladle(ladle, 0), places[ladle]);
            Check.same("crane of ladle " + ladle, x.ladle(ladle, 1), HotAisle.NONE);
            Check.same("sort of ladle " + ladle, x.ladle(ladle, 2), 0);
            Rig.stuffOfLadle(x, ladle, 4, 0, 0, 0, 0);
            Rig.stuffOfLadle(x, ladle, 8, 0, 0, 0, 0);
        }
    }

    /** "have a HEAT (1150 at first)": empty, not BLOWN. */
    private static void vessels() {
        HotAisle x = new HotAisle();
        for (int vessel = 0; vessel < 3; vessel++) {
            Check.same("heat of vessel " + vessel, x.vessel(vessel, 0), 1150);
            Check.same("blown vessel " + vessel, x.vessel(vessel, 1), 0);
            Rig.stuffOfVessel(x, vessel, 0, 0, 0, 0);
            Check.same("held of vessel " + vessel, x.vessel(vessel, 6), 0);
            Check.same("stopped of vessel " + vessel, x.vessel(vessel, 7), 0);
        }
    }

    private static void booksAndCounts() {
        HotAisle x = new HotAisle();
        for (int at = 0; at < 11; at++) {
            Rig.booked(x, at, 0, 0, 0, 0);
        }
        for (int what = 0; what < 10; what++) {
            Check.same("count(" + what + ")", x.count(what), what == 8 ? 12 : 0);
        }
    }

    /** "THE FURNACE not fed, THE LIMIT 12." */
    private static void notFedAndLimitTwelve() {
        HotAisle x = new HotAisle();
        x.minutes(1);
        Rig.booked(x, 0, 0, 0, 0, 0);
        Check.same("fed(false)", x.fed(false), 0);
        Check.same("limit(12)", x.limit(12), 12);
    }

    private static void noStateIsKept() {
        Check.same("back()", new HotAisle().back(), HotAisle.NO);
    }

    private static void standsAlone() {
        HotAisle first = new HotAisle();
        HotAisle second = new HotAisle();
        first.keep();
        Rig.feed(first, 3);
        first.order(0, Rig.GO, 5);
        Check.same("count(0) of another object", second.count(0), 0);
        Check.same("count(7) of another object", second.count(7), 0);
        Check.same("book(0, 1) of another object", second.book(0, 1), 0);
        Check.same("crane(0, 2) of another object", second.crane(0, 2), 0);
    }

    /** "An object is used for at most 512 calls": the last of them is answered as the first. */
    private static void fiveHundredAndTwelveCalls() {
        HotAisle x = new HotAisle();
        x.fed(true);
        Rig.give(x, 0, "set");
        for (int i = 0; i < 507; i++) {
            x.until(200);
        }
        Check.same("crane(0, 4), call 510", x.crane(0, 4), 507 * 200);
        Check.same("count(5), call 511", x.count(5), 507 * 200 - 66);
        Check.same("count(0), call 512", x.count(0), 507 * 200);
    }

    /** "BAD = -1, NO = -2, FULL = -3, NONE = -4". */
    private static void constants() {
        Check.same("BAD", HotAisle.BAD, -1);
        Check.same("NO", HotAisle.NO, -2);
        Check.same("FULL", HotAisle.FULL, -3);
        Check.same("NONE", HotAisle.NONE, -4);
    }
}
